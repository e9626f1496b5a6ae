theorem f_Auc_find_0 : fetch 1 0 = some (.aload_n 1) := by decide +kernel
theorem e_Auc_find_0 (a0 a2 a3 a4 a5 a6 a7 a8 a9 : AV) (σ : aM) (l1 : Option (Nat × Int)) (r : List AV)  : ev 1 0 [a0, aQ l1, a2, a3, a4, a5, a6, a7, a8, a9] (r) σ = ev 1 1 [a0, aQ l1, a2, a3, a4, a5, a6, a7, a8, a9] (aQ l1 :: r) σ := ev_go f_Auc_find_0 rfl
theorem f_Auc_find_1 : fetch 1 1 = some (.getfield 25) := by decide +kernel
theorem e_Auc_find_1 (a0 a1 a2 a3 a4 a5 a6 a7 a8 a9 : AV) (σ : aM) (i : Int) (r : List AV)  : ev 1 1 [a0, a1, a2, a3, a4, a5, a6, a7, a8, a9] (aR 6 i :: r) σ = ev 1 4 [a0, a1, a2, a3, a4, a5, a6, a7, a8, a9] (aR 9 i :: r) σ := ev_go f_Auc_find_1 rfl
theorem f_Auc_find_4 : fetch 1 4 = some (.getfield 31) := by decide +kernel
theorem e_Auc_find_4 (a0 a1 a2 a3 a4 a5 a6 a7 a8 a9 : AV) (σ : aM) (i : Int) (r : List AV)  : ev 1 4 [a0, a1, a2, a3, a4, a5, a6, a7, a8, a9] (aR 9 i :: r) σ = ev 1 7 [a0, a1, a2, a3, a4, a5, a6, a7, a8, a9] (aI (gI σ 9 i 4) :: r) σ := ev_go f_Auc_find_4 rfl
theorem f_Auc_find_7 : fetch 1 7 = some (.ifCond .ne 9) := by decide +kernel
theorem e_Auc_find_7 (a0 a1 a2 a3 a4 a5 a6 a7 a8 a9 : AV) (σ : aM) (x : Int) (r : List AV) : ev 1 7 [a0, a1, a2, a3, a4, a5, a6, a7, a8, a9] (aI x :: r) σ = if ¬ x = 0 then ev 1 16 [a0, a1, a2, a3, a4, a5, a6, a7, a8, a9] r σ else ev 1 10 [a0, a1, a2, a3, a4, a5, a6, a7, a8, a9] r σ := ev_br f_Auc_find_7 rfl bc_ne
theorem f_Auc_find_10 : fetch 1 10 = some (.sipush 500) := by decide +kernel
theorem e_Auc_find_10 (a0 a1 a2 a3 a4 a5 a6 a7 a8 a9 : AV) (σ : aM) (r : List AV)  : ev 1 10 [a0, a1, a2, a3, a4, a5, a6, a7, a8, a9] (r) σ = ev 1 13 [a0, a1, a2, a3, a4, a5, a6, a7, a8, a9] (aI 500 :: r) σ := ev_go f_Auc_find_10 rfl
theorem f_Auc_find_13 : fetch 1 13 = some (.goto 10) := by decide +kernel
theorem e_Auc_find_13 (a0 a1 a2 a3 a4 a5 a6 a7 a8 a9 : AV) (σ : aM) (r : List AV)  : ev 1 13 [a0, a1, a2, a3, a4, a5, a6, a7, a8, a9] (r) σ = ev 1 23 [a0, a1, a2, a3, a4, a5, a6, a7, a8, a9] (r) σ := ev_go f_Auc_find_13 rfl
theorem f_Auc_find_16 : fetch 1 16 = some (.aload_n 1) := by decide +kernel
theorem e_Auc_find_16 (a0 a2 a3 a4 a5 a6 a7 a8 a9 : AV) (σ : aM) (l1 : Option (Nat × Int)) (r : List AV)  : ev 1 16 [a0, aQ l1, a2, a3, a4, a5, a6, a7, a8, a9] (r) σ = ev 1 17 [a0, aQ l1, a2, a3, a4, a5, a6, a7, a8, a9] (aQ l1 :: r) σ := ev_go f_Auc_find_16 rfl
theorem f_Auc_find_17 : fetch 1 17 = some (.getfield 25) := by decide +kernel
theorem e_Auc_find_17 (a0 a1 a2 a3 a4 a5 a6 a7 a8 a9 : AV) (σ : aM) (i : Int) (r : List AV)  : ev 1 17 [a0, a1, a2, a3, a4, a5, a6, a7, a8, a9] (aR 6 i :: r) σ = ev 1 20 [a0, a1, a2, a3, a4, a5, a6, a7, a8, a9] (aR 9 i :: r) σ := ev_go f_Auc_find_17 rfl
theorem f_Auc_find_20 : fetch 1 20 = some (.getfield 31) := by decide +kernel
theorem e_Auc_find_20 (a0 a1 a2 a3 a4 a5 a6 a7 a8 a9 : AV) (σ : aM) (i : Int) (r : List AV)  : ev 1 20 [a0, a1, a2, a3, a4, a5, a6, a7, a8, a9] (aR 9 i :: r) σ = ev 1 23 [a0, a1, a2, a3, a4, a5, a6, a7, a8, a9] (aI (gI σ 9 i 4) :: r) σ := ev_go f_Auc_find_20 rfl
theorem f_Auc_find_23 : fetch 1 23 = some (.istore_n 2) := by decide +kernel
theorem e_Auc_find_23 (a0 a2 a3 a4 a5 a6 a7 a8 a9 : AV) (σ : aM) (x : Int) (l1 : Option (Nat × Int)) (r : List AV)  : ev 1 23 [a0, aQ l1, a2, a3, a4, a5, a6, a7, a8, a9] (aI x :: r) σ = ev 1 24 [a0, aQ l1, aI x, a3, a4, a5, a6, a7, a8, a9] (r) σ := ev_go f_Auc_find_23 rfl
theorem f_Auc_find_24 : fetch 1 24 = some (.aload_n 0) := by decide +kernel
theorem e_Auc_find_24 (a1 a2 a3 a4 a5 a6 a7 a8 a9 : AV) (σ : aM) (l0 : Option (Nat × Int)) (r : List AV)  : ev 1 24 [aQ l0, a1, a2, a3, a4, a5, a6, a7, a8, a9] (r) σ = ev 1 25 [aQ l0, a1, a2, a3, a4, a5, a6, a7, a8, a9] (aQ l0 :: r) σ := ev_go f_Auc_find_24 rfl
theorem f_Auc_find_25 : fetch 1 25 = some (.aload_n 1) := by decide +kernel
theorem e_Auc_find_25 (a0 a2 a3 a4 a5 a6 a7 a8 a9 : AV) (σ : aM) (l1 : Option (Nat × Int)) (r : List AV)  : ev 1 25 [a0, aQ l1, a2, a3, a4, a5, a6, a7, a8, a9] (r) σ = ev 1 26 [a0, aQ l1, a2, a3, a4, a5, a6, a7, a8, a9] (aQ l1 :: r) σ := ev_go f_Auc_find_25 rfl
theorem f_Auc_find_26 : fetch 1 26 = some (.invokevirtual 36) := by decide +kernel
theorem e_Auc_find_26 (a0 a1 a2 a3 a4 a5 a6 a7 a8 a9 : AV) (σ : aM) (s0 : Int) (s1 : Option (Nat × Int)) : ev 1 26 [a0, a1, a2, a3, a4, a5, a6, a7, a8, a9] [aQ s1, aR 13 s0] σ = evK 1 29 [a0, a1, a2, a3, a4, a5, a6, a7, a8, a9] [] (ev 2 0 [aR 13 s0, aQ s1, aU, aU, aU] [] σ) := ev_call f_Auc_find_26 rfl rfl
theorem f_Auc_find_29 : fetch 1 29 = some (.istore_n 3) := by decide +kernel
theorem e_Auc_find_29 (a0 a1 a3 a4 a5 a6 a7 a8 a9 : AV) (σ : aM) (x : Int) (l2 : Int) (r : List AV)  : ev 1 29 [a0, a1, aI l2, a3, a4, a5, a6, a7, a8, a9] (aI x :: r) σ = ev 1 30 [a0, a1, aI l2, aI x, a4, a5, a6, a7, a8, a9] (r) σ := ev_go f_Auc_find_29 rfl
theorem f_Auc_find_30 : fetch 1 30 = some (.iconst 0) := by decide +kernel
theorem e_Auc_find_30 (a0 a1 a2 a3 a4 a5 a6 a7 a8 a9 : AV) (σ : aM) (r : List AV)  : ev 1 30 [a0, a1, a2, a3, a4, a5, a6, a7, a8, a9] (r) σ = ev 1 31 [a0, a1, a2, a3, a4, a5, a6, a7, a8, a9] (aI 0 :: r) σ := ev_go f_Auc_find_30 rfl
theorem f_Auc_find_31 : fetch 1 31 = some (.istore 4) := by decide +kernel
theorem e_Auc_find_31 (a0 a1 a2 a4 a5 a6 a7 a8 a9 : AV) (σ : aM) (x : Int) (l3 : Int) (r : List AV)  : ev 1 31 [a0, a1, a2, aI l3, a4, a5, a6, a7, a8, a9] (aI x :: r) σ = ev 1 33 [a0, a1, a2, aI l3, aI x, a5, a6, a7, a8, a9] (r) σ := ev_go f_Auc_find_31 rfl
theorem f_Auc_find_33 : fetch 1 33 = some (.iconst 0) := by decide +kernel
theorem e_Auc_find_33 (a0 a1 a2 a3 a4 a5 a6 a7 a8 a9 : AV) (σ : aM) (r : List AV)  : ev 1 33 [a0, a1, a2, a3, a4, a5, a6, a7, a8, a9] (r) σ = ev 1 34 [a0, a1, a2, a3, a4, a5, a6, a7, a8, a9] (aI 0 :: r) σ := ev_go f_Auc_find_33 rfl
theorem f_Auc_find_34 : fetch 1 34 = some (.istore 5) := by decide +kernel
theorem e_Auc_find_34 (a0 a1 a2 a3 a5 a6 a7 a8 a9 : AV) (σ : aM) (x : Int) (l4 : Int) (r : List AV)  : ev 1 34 [a0, a1, a2, a3, aI l4, a5, a6, a7, a8, a9] (aI x :: r) σ = ev 1 36 [a0, a1, a2, a3, aI l4, aI x, a6, a7, a8, a9] (r) σ := ev_go f_Auc_find_34 rfl
theorem f_Auc_find_36 : fetch 1 36 = some (.aload_n 0) := by decide +kernel
theorem e_Auc_find_36 (a1 a2 a3 a4 a5 a6 a7 a8 a9 : AV) (σ : aM) (l0 : Option (Nat × Int)) (r : List AV)  : ev 1 36 [aQ l0, a1, a2, a3, a4, a5, a6, a7, a8, a9] (r) σ = ev 1 37 [aQ l0, a1, a2, a3, a4, a5, a6, a7, a8, a9] (aQ l0 :: r) σ := ev_go f_Auc_find_36 rfl
theorem f_Auc_find_37 : fetch 1 37 = some (.iconst 0) := by decide +kernel
theorem e_Auc_find_37 (a0 a1 a2 a3 a4 a5 a6 a7 a8 a9 : AV) (σ : aM) (r : List AV)  : ev 1 37 [a0, a1, a2, a3, a4, a5, a6, a7, a8, a9] (r) σ = ev 1 38 [a0, a1, a2, a3, a4, a5, a6, a7, a8, a9] (aI 0 :: r) σ := ev_go f_Auc_find_37 rfl
theorem f_Auc_find_38 : fetch 1 38 = some (.putfield 18) := by decide +kernel
theorem e_Auc_find_38 (a0 a1 a2 a3 a4 a5 a6 a7 a8 a9 : AV) (σ : aM) (i : Int) (x : Int) (r : List AV)  : ev 1 38 [a0, a1, a2, a3, a4, a5, a6, a7, a8, a9] (aI x :: aR 13 i :: r) σ = ev 1 41 [a0, a1, a2, a3, a4, a5, a6, a7, a8, a9] (r) (uI σ 13 i 2 x) := ev_go f_Auc_find_38 rfl
theorem f_Auc_find_41 : fetch 1 41 = some (.aload_n 0) := by decide +kernel
theorem e_Auc_find_41 (a1 a2 a3 a4 a5 a6 a7 a8 a9 : AV) (σ : aM) (l0 : Option (Nat × Int)) (r : List AV)  : ev 1 41 [aQ l0, a1, a2, a3, a4, a5, a6, a7, a8, a9] (r) σ = ev 1 42 [aQ l0, a1, a2, a3, a4, a5, a6, a7, a8, a9] (aQ l0 :: r) σ := ev_go f_Auc_find_41 rfl
theorem f_Auc_find_42 : fetch 1 42 = some (.iconst 0) := by decide +kernel
theorem e_Auc_find_42 (a0 a1 a2 a3 a4 a5 a6 a7 a8 a9 : AV) (σ : aM) (r : List AV)  : ev 1 42 [a0, a1, a2, a3, a4, a5, a6, a7, a8, a9] (r) σ = ev 1 43 [a0, a1, a2, a3, a4, a5, a6, a7, a8, a9] (aI 0 :: r) σ := ev_go f_Auc_find_42 rfl
theorem f_Auc_find_43 : fetch 1 43 = some (.putfield 22) := by decide +kernel
theorem e_Auc_find_43 (a0 a1 a2 a3 a4 a5 a6 a7 a8 a9 : AV) (σ : aM) (i : Int) (x : Int) (r : List AV)  : ev 1 43 [a0, a1, a2, a3, a4, a5, a6, a7, a8, a9] (aI x :: aR 13 i :: r) σ = ev 1 46 [a0, a1, a2, a3, a4, a5, a6, a7, a8, a9] (r) (uI σ 13 i 3 x) := ev_go f_Auc_find_43 rfl
theorem f_Auc_find_46 : fetch 1 46 = some (.iconst 1) := by decide +kernel
theorem e_Auc_find_46 (a0 a1 a2 a3 a4 a5 a6 a7 a8 a9 : AV) (σ : aM) (r : List AV)  : ev 1 46 [a0, a1, a2, a3, a4, a5, a6, a7, a8, a9] (r) σ = ev 1 47 [a0, a1, a2, a3, a4, a5, a6, a7, a8, a9] (aI 1 :: r) σ := ev_go f_Auc_find_46 rfl
theorem f_Auc_find_47 : fetch 1 47 = some (.istore 6) := by decide +kernel
theorem e_Auc_find_47 (a0 a1 a2 a3 a4 a6 a7 a8 a9 : AV) (σ : aM) (x : Int) (l5 : Int) (r : List AV)  : ev 1 47 [a0, a1, a2, a3, a4, aI l5, a6, a7, a8, a9] (aI x :: r) σ = ev 1 49 [a0, a1, a2, a3, a4, aI l5, aI x, a7, a8, a9] (r) σ := ev_go f_Auc_find_47 rfl
theorem f_Auc_find_49 : fetch 1 49 = some (.iload 6) := by decide +kernel
theorem e_Auc_find_49 (a0 a1 a2 a3 a4 a5 a7 a8 a9 : AV) (σ : aM) (l6 : Int) (r : List AV)  : ev 1 49 [a0, a1, a2, a3, a4, a5, aI l6, a7, a8, a9] (r) σ = ev 1 51 [a0, a1, a2, a3, a4, a5, aI l6, a7, a8, a9] (aI l6 :: r) σ := ev_go f_Auc_find_49 rfl
theorem f_Auc_find_51 : fetch 1 51 = some (.sipush 999) := by decide +kernel
theorem e_Auc_find_51 (a0 a1 a2 a3 a4 a5 a6 a7 a8 a9 : AV) (σ : aM) (r : List AV)  : ev 1 51 [a0, a1, a2, a3, a4, a5, a6, a7, a8, a9] (r) σ = ev 1 54 [a0, a1, a2, a3, a4, a5, a6, a7, a8, a9] (aI 999 :: r) σ := ev_go f_Auc_find_51 rfl
theorem f_Auc_find_54 : fetch 1 54 = some (.if_icmp .gt 139) := by decide +kernel
theorem e_Auc_find_54 (a0 a1 a2 a3 a4 a5 a6 a7 a8 a9 : AV) (σ : aM) (x z : Int) (r : List AV) : ev 1 54 [a0, a1, a2, a3, a4, a5, a6, a7, a8, a9] (aI z :: aI x :: r) σ = if z < x then ev 1 193 [a0, a1, a2, a3, a4, a5, a6, a7, a8, a9] r σ else ev 1 57 [a0, a1, a2, a3, a4, a5, a6, a7, a8, a9] r σ := ev_br f_Auc_find_54 rfl bc_gt
theorem f_Auc_find_57 : fetch 1 57 = some (.iload 4) := by decide +kernel
theorem e_Auc_find_57 (a0 a1 a2 a3 a5 a6 a7 a8 a9 : AV) (σ : aM) (l4 : Int) (r : List AV)  : ev 1 57 [a0, a1, a2, a3, aI l4, a5, a6, a7, a8, a9] (r) σ = ev 1 59 [a0, a1, a2, a3, aI l4, a5, a6, a7, a8, a9] (aI l4 :: r) σ := ev_go f_Auc_find_57 rfl
theorem f_Auc_find_59 : fetch 1 59 = some (.aload_n 0) := by decide +kernel
theorem e_Auc_find_59 (a1 a2 a3 a4 a5 a6 a7 a8 a9 : AV) (σ : aM) (l0 : Option (Nat × Int)) (r : List AV)  : ev 1 59 [aQ l0, a1, a2, a3, a4, a5, a6, a7, a8, a9] (r) σ = ev 1 60 [aQ l0, a1, a2, a3, a4, a5, a6, a7, a8, a9] (aQ l0 :: r) σ := ev_go f_Auc_find_59 rfl
theorem f_Auc_find_60 : fetch 1 60 = some (.getfield 15) := by decide +kernel
theorem e_Auc_find_60 (a0 a1 a2 a3 a4 a5 a6 a7 a8 a9 : AV) (σ : aM) (i : Int) (r : List AV)  : ev 1 60 [a0, a1, a2, a3, a4, a5, a6, a7, a8, a9] (aR 13 i :: r) σ = ev 1 63 [a0, a1, a2, a3, a4, a5, a6, a7, a8, a9] (aR 15 0 :: r) σ := ev_go f_Auc_find_60 rfl
theorem f_Auc_find_63 : fetch 1 63 = some (.iload 6) := by decide +kernel
theorem e_Auc_find_63 (a0 a1 a2 a3 a4 a5 a7 a8 a9 : AV) (σ : aM) (l6 : Int) (r : List AV)  : ev 1 63 [a0, a1, a2, a3, a4, a5, aI l6, a7, a8, a9] (r) σ = ev 1 65 [a0, a1, a2, a3, a4, a5, aI l6, a7, a8, a9] (aI l6 :: r) σ := ev_go f_Auc_find_63 rfl
theorem f_Auc_find_65 : fetch 1 65 = some (.iaload) := by decide +kernel
theorem e_Auc_find_65 (a0 a1 a2 a3 a4 a5 a6 a7 a8 a9 : AV) (σ : aM) (x : Int) (i : Int) (r : List AV) (h : 0 ≤ x ∧ x < 1000) : ev 1 65 [a0, a1, a2, a3, a4, a5, a6, a7, a8, a9] (aI x :: aR 15 i :: r) σ = ev 1 66 [a0, a1, a2, a3, a4, a5, a6, a7, a8, a9] (aI (gI σ 15 i x) :: r) σ := ev_ld (j := i) f_Auc_find_65 rfl rfl (by decide) rfl h
theorem f_Auc_find_66 : fetch 1 66 = some (.iadd) := by decide +kernel
theorem e_Auc_find_66 (a0 a1 a2 a3 a4 a5 a6 a7 a8 a9 : AV) (σ : aM) (x z : Int) (r : List AV)  : ev 1 66 [a0, a1, a2, a3, a4, a5, a6, a7, a8, a9] (aI z :: aI x :: r) σ = ev 1 67 [a0, a1, a2, a3, a4, a5, a6, a7, a8, a9] (aI (wr (x + z)) :: r) σ := ev_go f_Auc_find_66 rfl
theorem f_Auc_find_67 : fetch 1 67 = some (.istore 4) := by decide +kernel
theorem e_Auc_find_67 (a0 a1 a2 a4 a5 a6 a7 a8 a9 : AV) (σ : aM) (x : Int) (l3 : Int) (r : List AV)  : ev 1 67 [a0, a1, a2, aI l3, a4, a5, a6, a7, a8, a9] (aI x :: r) σ = ev 1 69 [a0, a1, a2, aI l3, aI x, a5, a6, a7, a8, a9] (r) σ := ev_go f_Auc_find_67 rfl
theorem f_Auc_find_69 : fetch 1 69 = some (.iload_n 3) := by decide +kernel
theorem e_Auc_find_69 (a0 a1 a2 a4 a5 a6 a7 a8 a9 : AV) (σ : aM) (l3 : Int) (r : List AV)  : ev 1 69 [a0, a1, a2, aI l3, a4, a5, a6, a7, a8, a9] (r) σ = ev 1 70 [a0, a1, a2, aI l3, a4, a5, a6, a7, a8, a9] (aI l3 :: r) σ := ev_go f_Auc_find_69 rfl
theorem f_Auc_find_70 : fetch 1 70 = some (.iload 4) := by decide +kernel
theorem e_Auc_find_70 (a0 a1 a2 a3 a5 a6 a7 a8 a9 : AV) (σ : aM) (l4 : Int) (r : List AV)  : ev 1 70 [a0, a1, a2, a3, aI l4, a5, a6, a7, a8, a9] (r) σ = ev 1 72 [a0, a1, a2, a3, aI l4, a5, a6, a7, a8, a9] (aI l4 :: r) σ := ev_go f_Auc_find_70 rfl
theorem f_Auc_find_72 : fetch 1 72 = some (.invokestatic 40) := by decide +kernel
theorem e_Auc_find_72 (a0 a1 a2 a3 a4 a5 a6 a7 a8 a9 : AV) (σ : aM) (s0 : Int) (s1 : Int) : ev 1 72 [a0, a1, a2, a3, a4, a5, a6, a7, a8, a9] [aI s1, aI s0] σ = ev 1 75 [a0, a1, a2, a3, a4, a5, a6, a7, a8, a9] (aI (if s1 < s0 then s1 else s0) :: []) σ := ev_go f_Auc_find_72 rfl
theorem f_Auc_find_75 : fetch 1 75 = some (.istore 7) := by decide +kernel
theorem e_Auc_find_75 (a0 a1 a2 a3 a4 a5 a7 a8 a9 : AV) (σ : aM) (x : Int) (l6 : Int) (r : List AV)  : ev 1 75 [a0, a1, a2, a3, a4, a5, aI l6, a7, a8, a9] (aI x :: r) σ = ev 1 77 [a0, a1, a2, a3, a4, a5, aI l6, aI x, a8, a9] (r) σ := ev_go f_Auc_find_75 rfl
theorem f_Auc_find_77 : fetch 1 77 = some (.iload_n 3) := by decide +kernel
theorem e_Auc_find_77 (a0 a1 a2 a4 a5 a6 a7 a8 a9 : AV) (σ : aM) (l3 : Int) (r : List AV)  : ev 1 77 [a0, a1, a2, aI l3, a4, a5, a6, a7, a8, a9] (r) σ = ev 1 78 [a0, a1, a2, aI l3, a4, a5, a6, a7, a8, a9] (aI l3 :: r) σ := ev_go f_Auc_find_77 rfl
theorem f_Auc_find_78 : fetch 1 78 = some (.iload 4) := by decide +kernel
theorem e_Auc_find_78 (a0 a1 a2 a3 a5 a6 a7 a8 a9 : AV) (σ : aM) (l4 : Int) (r : List AV)  : ev 1 78 [a0, a1, a2, a3, aI l4, a5, a6, a7, a8, a9] (r) σ = ev 1 80 [a0, a1, a2, a3, aI l4, a5, a6, a7, a8, a9] (aI l4 :: r) σ := ev_go f_Auc_find_78 rfl
theorem f_Auc_find_80 : fetch 1 80 = some (.isub) := by decide +kernel
theorem e_Auc_find_80 (a0 a1 a2 a3 a4 a5 a6 a7 a8 a9 : AV) (σ : aM) (x z : Int) (r : List AV)  : ev 1 80 [a0, a1, a2, a3, a4, a5, a6, a7, a8, a9] (aI z :: aI x :: r) σ = ev 1 81 [a0, a1, a2, a3, a4, a5, a6, a7, a8, a9] (aI (wr (x - z)) :: r) σ := ev_go f_Auc_find_80 rfl
theorem f_Auc_find_81 : fetch 1 81 = some (.invokestatic 46) := by decide +kernel
theorem e_Auc_find_81 (a0 a1 a2 a3 a4 a5 a6 a7 a8 a9 : AV) (σ : aM) (s0 : Int) : ev 1 81 [a0, a1, a2, a3, a4, a5, a6, a7, a8, a9] [aI s0] σ = ev 1 84 [a0, a1, a2, a3, a4, a5, a6, a7, a8, a9] (aI (if 0 ≤ s0 then s0 else wr (0 - s0)) :: []) σ := ev_go f_Auc_find_81 rfl
theorem f_Auc_find_84 : fetch 1 84 = some (.istore 8) := by decide +kernel
theorem e_Auc_find_84 (a0 a1 a2 a3 a4 a5 a6 a8 a9 : AV) (σ : aM) (x : Int) (l7 : Int) (r : List AV)  : ev 1 84 [a0, a1, a2, a3, a4, a5, a6, aI l7, a8, a9] (aI x :: r) σ = ev 1 86 [a0, a1, a2, a3, a4, a5, a6, aI l7, aI x, a9] (r) σ := ev_go f_Auc_find_84 rfl
theorem f_Auc_find_86 : fetch 1 86 = some (.iload 7) := by decide +kernel
theorem e_Auc_find_86 (a0 a1 a2 a3 a4 a5 a6 a8 a9 : AV) (σ : aM) (l7 : Int) (r : List AV)  : ev 1 86 [a0, a1, a2, a3, a4, a5, a6, aI l7, a8, a9] (r) σ = ev 1 88 [a0, a1, a2, a3, a4, a5, a6, aI l7, a8, a9] (aI l7 :: r) σ := ev_go f_Auc_find_86 rfl
theorem f_Auc_find_88 : fetch 1 88 = some (.aload_n 0) := by decide +kernel
theorem e_Auc_find_88 (a1 a2 a3 a4 a5 a6 a7 a8 a9 : AV) (σ : aM) (l0 : Option (Nat × Int)) (r : List AV)  : ev 1 88 [aQ l0, a1, a2, a3, a4, a5, a6, a7, a8, a9] (r) σ = ev 1 89 [aQ l0, a1, a2, a3, a4, a5, a6, a7, a8, a9] (aQ l0 :: r) σ := ev_go f_Auc_find_88 rfl
theorem f_Auc_find_89 : fetch 1 89 = some (.getfield 22) := by decide +kernel
theorem e_Auc_find_89 (a0 a1 a2 a3 a4 a5 a6 a7 a8 a9 : AV) (σ : aM) (i : Int) (r : List AV)  : ev 1 89 [a0, a1, a2, a3, a4, a5, a6, a7, a8, a9] (aR 13 i :: r) σ = ev 1 92 [a0, a1, a2, a3, a4, a5, a6, a7, a8, a9] (aI (gI σ 13 i 3) :: r) σ := ev_go f_Auc_find_89 rfl
theorem f_Auc_find_92 : fetch 1 92 = some (.if_icmp .le 7) := by decide +kernel
theorem e_Auc_find_92 (a0 a1 a2 a3 a4 a5 a6 a7 a8 a9 : AV) (σ : aM) (x z : Int) (r : List AV) : ev 1 92 [a0, a1, a2, a3, a4, a5, a6, a7, a8, a9] (aI z :: aI x :: r) σ = if x ≤ z then ev 1 99 [a0, a1, a2, a3, a4, a5, a6, a7, a8, a9] r σ else ev 1 95 [a0, a1, a2, a3, a4, a5, a6, a7, a8, a9] r σ := ev_br f_Auc_find_92 rfl bc_le
theorem f_Auc_find_95 : fetch 1 95 = some (.iconst 1) := by decide +kernel
theorem e_Auc_find_95 (a0 a1 a2 a3 a4 a5 a6 a7 a8 a9 : AV) (σ : aM) (r : List AV)  : ev 1 95 [a0, a1, a2, a3, a4, a5, a6, a7, a8, a9] (r) σ = ev 1 96 [a0, a1, a2, a3, a4, a5, a6, a7, a8, a9] (aI 1 :: r) σ := ev_go f_Auc_find_95 rfl
theorem f_Auc_find_96 : fetch 1 96 = some (.goto 4) := by decide +kernel
theorem e_Auc_find_96 (a0 a1 a2 a3 a4 a5 a6 a7 a8 a9 : AV) (σ : aM) (r : List AV)  : ev 1 96 [a0, a1, a2, a3, a4, a5, a6, a7, a8, a9] (r) σ = ev 1 100 [a0, a1, a2, a3, a4, a5, a6, a7, a8, a9] (r) σ := ev_go f_Auc_find_96 rfl
theorem f_Auc_find_99 : fetch 1 99 = some (.iconst 0) := by decide +kernel
theorem e_Auc_find_99 (a0 a1 a2 a3 a4 a5 a6 a7 a8 a9 : AV) (σ : aM) (r : List AV)  : ev 1 99 [a0, a1, a2, a3, a4, a5, a6, a7, a8, a9] (r) σ = ev 1 100 [a0, a1, a2, a3, a4, a5, a6, a7, a8, a9] (aI 0 :: r) σ := ev_go f_Auc_find_99 rfl
theorem f_Auc_find_100 : fetch 1 100 = some (.istore 9) := by decide +kernel
theorem e_Auc_find_100 (a0 a1 a2 a3 a4 a5 a6 a7 a9 : AV) (σ : aM) (x : Int) (l8 : Int) (r : List AV)  : ev 1 100 [a0, a1, a2, a3, a4, a5, a6, a7, aI l8, a9] (aI x :: r) σ = ev 1 102 [a0, a1, a2, a3, a4, a5, a6, a7, aI l8, aI x] (r) σ := ev_go f_Auc_find_100 rfl
theorem f_Auc_find_102 : fetch 1 102 = some (.iload 7) := by decide +kernel
theorem e_Auc_find_102 (a0 a1 a2 a3 a4 a5 a6 a8 a9 : AV) (σ : aM) (l7 : Int) (r : List AV)  : ev 1 102 [a0, a1, a2, a3, a4, a5, a6, aI l7, a8, a9] (r) σ = ev 1 104 [a0, a1, a2, a3, a4, a5, a6, aI l7, a8, a9] (aI l7 :: r) σ := ev_go f_Auc_find_102 rfl
theorem f_Auc_find_104 : fetch 1 104 = some (.aload_n 0) := by decide +kernel
theorem e_Auc_find_104 (a1 a2 a3 a4 a5 a6 a7 a8 a9 : AV) (σ : aM) (l0 : Option (Nat × Int)) (r : List AV)  : ev 1 104 [aQ l0, a1, a2, a3, a4, a5, a6, a7, a8, a9] (r) σ = ev 1 105 [aQ l0, a1, a2, a3, a4, a5, a6, a7, a8, a9] (aQ l0 :: r) σ := ev_go f_Auc_find_104 rfl
theorem f_Auc_find_105 : fetch 1 105 = some (.getfield 22) := by decide +kernel
theorem e_Auc_find_105 (a0 a1 a2 a3 a4 a5 a6 a7 a8 a9 : AV) (σ : aM) (i : Int) (r : List AV)  : ev 1 105 [a0, a1, a2, a3, a4, a5, a6, a7, a8, a9] (aR 13 i :: r) σ = ev 1 108 [a0, a1, a2, a3, a4, a5, a6, a7, a8, a9] (aI (gI σ 13 i 3) :: r) σ := ev_go f_Auc_find_105 rfl
theorem f_Auc_find_108 : fetch 1 108 = some (.if_icmp .ne 48) := by decide +kernel
theorem e_Auc_find_108 (a0 a1 a2 a3 a4 a5 a6 a7 a8 a9 : AV) (σ : aM) (x z : Int) (r : List AV) : ev 1 108 [a0, a1, a2, a3, a4, a5, a6, a7, a8, a9] (aI z :: aI x :: r) σ = if ¬ x = z then ev 1 156 [a0, a1, a2, a3, a4, a5, a6, a7, a8, a9] r σ else ev 1 111 [a0, a1, a2, a3, a4, a5, a6, a7, a8, a9] r σ := ev_br f_Auc_find_108 rfl bc_ne
theorem f_Auc_find_111 : fetch 1 111 = some (.iload 7) := by decide +kernel
theorem e_Auc_find_111 (a0 a1 a2 a3 a4 a5 a6 a8 a9 : AV) (σ : aM) (l7 : Int) (r : List AV)  : ev 1 111 [a0, a1, a2, a3, a4, a5, a6, aI l7, a8, a9] (r) σ = ev 1 113 [a0, a1, a2, a3, a4, a5, a6, aI l7, a8, a9] (aI l7 :: r) σ := ev_go f_Auc_find_111 rfl
theorem f_Auc_find_113 : fetch 1 113 = some (.ifCond .le 43) := by decide +kernel
theorem e_Auc_find_113 (a0 a1 a2 a3 a4 a5 a6 a7 a8 a9 : AV) (σ : aM) (x : Int) (r : List AV) : ev 1 113 [a0, a1, a2, a3, a4, a5, a6, a7, a8, a9] (aI x :: r) σ = if x ≤ 0 then ev 1 156 [a0, a1, a2, a3, a4, a5, a6, a7, a8, a9] r σ else ev 1 116 [a0, a1, a2, a3, a4, a5, a6, a7, a8, a9] r σ := ev_br f_Auc_find_113 rfl bc_le
theorem f_Auc_find_116 : fetch 1 116 = some (.iload 8) := by decide +kernel
theorem e_Auc_find_116 (a0 a1 a2 a3 a4 a5 a6 a7 a9 : AV) (σ : aM) (l8 : Int) (r : List AV)  : ev 1 116 [a0, a1, a2, a3, a4, a5, a6, a7, aI l8, a9] (r) σ = ev 1 118 [a0, a1, a2, a3, a4, a5, a6, a7, aI l8, a9] (aI l8 :: r) σ := ev_go f_Auc_find_116 rfl
theorem f_Auc_find_118 : fetch 1 118 = some (.iload 5) := by decide +kernel
theorem e_Auc_find_118 (a0 a1 a2 a3 a4 a6 a7 a8 a9 : AV) (σ : aM) (l5 : Int) (r : List AV)  : ev 1 118 [a0, a1, a2, a3, a4, aI l5, a6, a7, a8, a9] (r) σ = ev 1 120 [a0, a1, a2, a3, a4, aI l5, a6, a7, a8, a9] (aI l5 :: r) σ := ev_go f_Auc_find_118 rfl
theorem f_Auc_find_120 : fetch 1 120 = some (.if_icmp .lt 29) := by decide +kernel
theorem e_Auc_find_120 (a0 a1 a2 a3 a4 a5 a6 a7 a8 a9 : AV) (σ : aM) (x z : Int) (r : List AV) : ev 1 120 [a0, a1, a2, a3, a4, a5, a6, a7, a8, a9] (aI z :: aI x :: r) σ = if x < z then ev 1 149 [a0, a1, a2, a3, a4, a5, a6, a7, a8, a9] r σ else ev 1 123 [a0, a1, a2, a3, a4, a5, a6, a7, a8, a9] r σ := ev_br f_Auc_find_120 rfl bc_lt
theorem f_Auc_find_123 : fetch 1 123 = some (.iload 8) := by decide +kernel
theorem e_Auc_find_123 (a0 a1 a2 a3 a4 a5 a6 a7 a9 : AV) (σ : aM) (l8 : Int) (r : List AV)  : ev 1 123 [a0, a1, a2, a3, a4, a5, a6, a7, aI l8, a9] (r) σ = ev 1 125 [a0, a1, a2, a3, a4, a5, a6, a7, aI l8, a9] (aI l8 :: r) σ := ev_go f_Auc_find_123 rfl
theorem f_Auc_find_125 : fetch 1 125 = some (.iload 5) := by decide +kernel
theorem e_Auc_find_125 (a0 a1 a2 a3 a4 a6 a7 a8 a9 : AV) (σ : aM) (l5 : Int) (r : List AV)  : ev 1 125 [a0, a1, a2, a3, a4, aI l5, a6, a7, a8, a9] (r) σ = ev 1 127 [a0, a1, a2, a3, a4, aI l5, a6, a7, a8, a9] (aI l5 :: r) σ := ev_go f_Auc_find_125 rfl
theorem f_Auc_find_127 : fetch 1 127 = some (.if_icmp .ne 26) := by decide +kernel
theorem e_Auc_find_127 (a0 a1 a2 a3 a4 a5 a6 a7 a8 a9 : AV) (σ : aM) (x z : Int) (r : List AV) : ev 1 127 [a0, a1, a2, a3, a4, a5, a6, a7, a8, a9] (aI z :: aI x :: r) σ = if ¬ x = z then ev 1 153 [a0, a1, a2, a3, a4, a5, a6, a7, a8, a9] r σ else ev 1 130 [a0, a1, a2, a3, a4, a5, a6, a7, a8, a9] r σ := ev_br f_Auc_find_127 rfl bc_ne
theorem f_Auc_find_130 : fetch 1 130 = some (.iload 6) := by decide +kernel
theorem e_Auc_find_130 (a0 a1 a2 a3 a4 a5 a7 a8 a9 : AV) (σ : aM) (l6 : Int) (r : List AV)  : ev 1 130 [a0, a1, a2, a3, a4, a5, aI l6, a7, a8, a9] (r) σ = ev 1 132 [a0, a1, a2, a3, a4, a5, aI l6, a7, a8, a9] (aI l6 :: r) σ := ev_go f_Auc_find_130 rfl
theorem f_Auc_find_132 : fetch 1 132 = some (.iload_n 2) := by decide +kernel
theorem e_Auc_find_132 (a0 a1 a3 a4 a5 a6 a7 a8 a9 : AV) (σ : aM) (l2 : Int) (r : List AV)  : ev 1 132 [a0, a1, aI l2, a3, a4, a5, a6, a7, a8, a9] (r) σ = ev 1 133 [a0, a1, aI l2, a3, a4, a5, a6, a7, a8, a9] (aI l2 :: r) σ := ev_go f_Auc_find_132 rfl
theorem f_Auc_find_133 : fetch 1 133 = some (.isub) := by decide +kernel
theorem e_Auc_find_133 (a0 a1 a2 a3 a4 a5 a6 a7 a8 a9 : AV) (σ : aM) (x z : Int) (r : List AV)  : ev 1 133 [a0, a1, a2, a3, a4, a5, a6, a7, a8, a9] (aI z :: aI x :: r) σ = ev 1 134 [a0, a1, a2, a3, a4, a5, a6, a7, a8, a9] (aI (wr (x - z)) :: r) σ := ev_go f_Auc_find_133 rfl
theorem f_Auc_find_134 : fetch 1 134 = some (.invokestatic 46) := by decide +kernel
theorem e_Auc_find_134 (a0 a1 a2 a3 a4 a5 a6 a7 a8 a9 : AV) (σ : aM) (s0 : Int) : ev 1 134 [a0, a1, a2, a3, a4, a5, a6, a7, a8, a9] [aI s0] σ = ev 1 137 [a0, a1, a2, a3, a4, a5, a6, a7, a8, a9] (aI (if 0 ≤ s0 then s0 else wr (0 - s0)) :: []) σ := ev_go f_Auc_find_134 rfl
theorem f_Auc_find_137 : fetch 1 137 = some (.aload_n 0) := by decide +kernel
theorem e_Auc_find_137 (a1 a2 a3 a4 a5 a6 a7 a8 a9 : AV) (σ : aM) (l0 : Option (Nat × Int)) (r : List AV)  : ev 1 137 [aQ l0, a1, a2, a3, a4, a5, a6, a7, a8, a9] (r) σ = ev 1 138 [aQ l0, a1, a2, a3, a4, a5, a6, a7, a8, a9] (aQ l0 :: r) σ := ev_go f_Auc_find_137 rfl
theorem f_Auc_find_138 : fetch 1 138 = some (.getfield 18) := by decide +kernel
theorem e_Auc_find_138 (a0 a1 a2 a3 a4 a5 a6 a7 a8 a9 : AV) (σ : aM) (i : Int) (r : List AV)  : ev 1 138 [a0, a1, a2, a3, a4, a5, a6, a7, a8, a9] (aR 13 i :: r) σ = ev 1 141 [a0, a1, a2, a3, a4, a5, a6, a7, a8, a9] (aI (gI σ 13 i 2) :: r) σ := ev_go f_Auc_find_138 rfl
theorem f_Auc_find_141 : fetch 1 141 = some (.iload_n 2) := by decide +kernel
theorem e_Auc_find_141 (a0 a1 a3 a4 a5 a6 a7 a8 a9 : AV) (σ : aM) (l2 : Int) (r : List AV)  : ev 1 141 [a0, a1, aI l2, a3, a4, a5, a6, a7, a8, a9] (r) σ = ev 1 142 [a0, a1, aI l2, a3, a4, a5, a6, a7, a8, a9] (aI l2 :: r) σ := ev_go f_Auc_find_141 rfl
theorem f_Auc_find_142 : fetch 1 142 = some (.isub) := by decide +kernel
theorem e_Auc_find_142 (a0 a1 a2 a3 a4 a5 a6 a7 a8 a9 : AV) (σ : aM) (x z : Int) (r : List AV)  : ev 1 142 [a0, a1, a2, a3, a4, a5, a6, a7, a8, a9] (aI z :: aI x :: r) σ = ev 1 143 [a0, a1, a2, a3, a4, a5, a6, a7, a8, a9] (aI (wr (x - z)) :: r) σ := ev_go f_Auc_find_142 rfl
theorem f_Auc_find_143 : fetch 1 143 = some (.invokestatic 46) := by decide +kernel
theorem e_Auc_find_143 (a0 a1 a2 a3 a4 a5 a6 a7 a8 a9 : AV) (σ : aM) (s0 : Int) (s1 : Int) : ev 1 143 [a0, a1, a2, a3, a4, a5, a6, a7, a8, a9] [aI s1, aI s0] σ = ev 1 146 [a0, a1, a2, a3, a4, a5, a6, a7, a8, a9] (aI (if 0 ≤ s1 then s1 else wr (0 - s1)) :: [aI s0]) σ := ev_go f_Auc_find_143 rfl
theorem f_Auc_find_146 : fetch 1 146 = some (.if_icmp .ge 7) := by decide +kernel
theorem e_Auc_find_146 (a0 a1 a2 a3 a4 a5 a6 a7 a8 a9 : AV) (σ : aM) (x z : Int) (r : List AV) : ev 1 146 [a0, a1, a2, a3, a4, a5, a6, a7, a8, a9] (aI z :: aI x :: r) σ = if z ≤ x then ev 1 153 [a0, a1, a2, a3, a4, a5, a6, a7, a8, a9] r σ else ev 1 149 [a0, a1, a2, a3, a4, a5, a6, a7, a8, a9] r σ := ev_br f_Auc_find_146 rfl bc_ge
theorem f_Auc_find_149 : fetch 1 149 = some (.iconst 1) := by decide +kernel
theorem e_Auc_find_149 (a0 a1 a2 a3 a4 a5 a6 a7 a8 a9 : AV) (σ : aM) (r : List AV)  : ev 1 149 [a0, a1, a2, a3, a4, a5, a6, a7, a8, a9] (r) σ = ev 1 150 [a0, a1, a2, a3, a4, a5, a6, a7, a8, a9] (aI 1 :: r) σ := ev_go f_Auc_find_149 rfl
theorem f_Auc_find_150 : fetch 1 150 = some (.goto 4) := by decide +kernel
theorem e_Auc_find_150 (a0 a1 a2 a3 a4 a5 a6 a7 a8 a9 : AV) (σ : aM) (r : List AV)  : ev 1 150 [a0, a1, a2, a3, a4, a5, a6, a7, a8, a9] (r) σ = ev 1 154 [a0, a1, a2, a3, a4, a5, a6, a7, a8, a9] (r) σ := ev_go f_Auc_find_150 rfl
theorem f_Auc_find_153 : fetch 1 153 = some (.iconst 0) := by decide +kernel
theorem e_Auc_find_153 (a0 a1 a2 a3 a4 a5 a6 a7 a8 a9 : AV) (σ : aM) (r : List AV)  : ev 1 153 [a0, a1, a2, a3, a4, a5, a6, a7, a8, a9] (r) σ = ev 1 154 [a0, a1, a2, a3, a4, a5, a6, a7, a8, a9] (aI 0 :: r) σ := ev_go f_Auc_find_153 rfl
theorem f_Auc_find_154 : fetch 1 154 = some (.istore 9) := by decide +kernel
theorem e_Auc_find_154 (a0 a1 a2 a3 a4 a5 a6 a7 a9 : AV) (σ : aM) (x : Int) (l8 : Int) (r : List AV)  : ev 1 154 [a0, a1, a2, a3, a4, a5, a6, a7, aI l8, a9] (aI x :: r) σ = ev 1 156 [a0, a1, a2, a3, a4, a5, a6, a7, aI l8, aI x] (r) σ := ev_go f_Auc_find_154 rfl
theorem f_Auc_find_156 : fetch 1 156 = some (.iload 9) := by decide +kernel
theorem e_Auc_find_156 (a0 a1 a2 a3 a4 a5 a6 a7 a8 : AV) (σ : aM) (l9 : Int) (r : List AV)  : ev 1 156 [a0, a1, a2, a3, a4, a5, a6, a7, a8, aI l9] (r) σ = ev 1 158 [a0, a1, a2, a3, a4, a5, a6, a7, a8, aI l9] (aI l9 :: r) σ := ev_go f_Auc_find_156 rfl
theorem f_Auc_find_158 : fetch 1 158 = some (.ifCond .eq 19) := by decide +kernel
theorem e_Auc_find_158 (a0 a1 a2 a3 a4 a5 a6 a7 a8 a9 : AV) (σ : aM) (x : Int) (r : List AV) : ev 1 158 [a0, a1, a2, a3, a4, a5, a6, a7, a8, a9] (aI x :: r) σ = if x = 0 then ev 1 177 [a0, a1, a2, a3, a4, a5, a6, a7, a8, a9] r σ else ev 1 161 [a0, a1, a2, a3, a4, a5, a6, a7, a8, a9] r σ := ev_br f_Auc_find_158 rfl bc_eq
theorem f_Auc_find_161 : fetch 1 161 = some (.aload_n 0) := by decide +kernel
theorem e_Auc_find_161 (a1 a2 a3 a4 a5 a6 a7 a8 a9 : AV) (σ : aM) (l0 : Option (Nat × Int)) (r : List AV)  : ev 1 161 [aQ l0, a1, a2, a3, a4, a5, a6, a7, a8, a9] (r) σ = ev 1 162 [aQ l0, a1, a2, a3, a4, a5, a6, a7, a8, a9] (aQ l0 :: r) σ := ev_go f_Auc_find_161 rfl
theorem f_Auc_find_162 : fetch 1 162 = some (.iload 6) := by decide +kernel
theorem e_Auc_find_162 (a0 a1 a2 a3 a4 a5 a7 a8 a9 : AV) (σ : aM) (l6 : Int) (r : List AV)  : ev 1 162 [a0, a1, a2, a3, a4, a5, aI l6, a7, a8, a9] (r) σ = ev 1 164 [a0, a1, a2, a3, a4, a5, aI l6, a7, a8, a9] (aI l6 :: r) σ := ev_go f_Auc_find_162 rfl
theorem f_Auc_find_164 : fetch 1 164 = some (.putfield 18) := by decide +kernel
theorem e_Auc_find_164 (a0 a1 a2 a3 a4 a5 a6 a7 a8 a9 : AV) (σ : aM) (i : Int) (x : Int) (r : List AV)  : ev 1 164 [a0, a1, a2, a3, a4, a5, a6, a7, a8, a9] (aI x :: aR 13 i :: r) σ = ev 1 167 [a0, a1, a2, a3, a4, a5, a6, a7, a8, a9] (r) (uI σ 13 i 2 x) := ev_go f_Auc_find_164 rfl
theorem f_Auc_find_167 : fetch 1 167 = some (.aload_n 0) := by decide +kernel
theorem e_Auc_find_167 (a1 a2 a3 a4 a5 a6 a7 a8 a9 : AV) (σ : aM) (l0 : Option (Nat × Int)) (r : List AV)  : ev 1 167 [aQ l0, a1, a2, a3, a4, a5, a6, a7, a8, a9] (r) σ = ev 1 168 [aQ l0, a1, a2, a3, a4, a5, a6, a7, a8, a9] (aQ l0 :: r) σ := ev_go f_Auc_find_167 rfl
theorem f_Auc_find_168 : fetch 1 168 = some (.iload 7) := by decide +kernel
theorem e_Auc_find_168 (a0 a1 a2 a3 a4 a5 a6 a8 a9 : AV) (σ : aM) (l7 : Int) (r : List AV)  : ev 1 168 [a0, a1, a2, a3, a4, a5, a6, aI l7, a8, a9] (r) σ = ev 1 170 [a0, a1, a2, a3, a4, a5, a6, aI l7, a8, a9] (aI l7 :: r) σ := ev_go f_Auc_find_168 rfl
theorem f_Auc_find_170 : fetch 1 170 = some (.putfield 22) := by decide +kernel
theorem e_Auc_find_170 (a0 a1 a2 a3 a4 a5 a6 a7 a8 a9 : AV) (σ : aM) (i : Int) (x : Int) (r : List AV)  : ev 1 170 [a0, a1, a2, a3, a4, a5, a6, a7, a8, a9] (aI x :: aR 13 i :: r) σ = ev 1 173 [a0, a1, a2, a3, a4, a5, a6, a7, a8, a9] (r) (uI σ 13 i 3 x) := ev_go f_Auc_find_170 rfl
theorem f_Auc_find_173 : fetch 1 173 = some (.iload 8) := by decide +kernel
theorem e_Auc_find_173 (a0 a1 a2 a3 a4 a5 a6 a7 a9 : AV) (σ : aM) (l8 : Int) (r : List AV)  : ev 1 173 [a0, a1, a2, a3, a4, a5, a6, a7, aI l8, a9] (r) σ = ev 1 175 [a0, a1, a2, a3, a4, a5, a6, a7, aI l8, a9] (aI l8 :: r) σ := ev_go f_Auc_find_173 rfl
theorem f_Auc_find_175 : fetch 1 175 = some (.istore 5) := by decide +kernel
theorem e_Auc_find_175 (a0 a1 a2 a3 a5 a6 a7 a8 a9 : AV) (σ : aM) (x : Int) (l4 : Int) (r : List AV)  : ev 1 175 [a0, a1, a2, a3, aI l4, a5, a6, a7, a8, a9] (aI x :: r) σ = ev 1 177 [a0, a1, a2, a3, aI l4, aI x, a6, a7, a8, a9] (r) σ := ev_go f_Auc_find_175 rfl
theorem f_Auc_find_177 : fetch 1 177 = some (.iload_n 3) := by decide +kernel
theorem e_Auc_find_177 (a0 a1 a2 a4 a5 a6 a7 a8 a9 : AV) (σ : aM) (l3 : Int) (r : List AV)  : ev 1 177 [a0, a1, a2, aI l3, a4, a5, a6, a7, a8, a9] (r) σ = ev 1 178 [a0, a1, a2, aI l3, a4, a5, a6, a7, a8, a9] (aI l3 :: r) σ := ev_go f_Auc_find_177 rfl
theorem f_Auc_find_178 : fetch 1 178 = some (.aload_n 0) := by decide +kernel
theorem e_Auc_find_178 (a1 a2 a3 a4 a5 a6 a7 a8 a9 : AV) (σ : aM) (l0 : Option (Nat × Int)) (r : List AV)  : ev 1 178 [aQ l0, a1, a2, a3, a4, a5, a6, a7, a8, a9] (r) σ = ev 1 179 [aQ l0, a1, a2, a3, a4, a5, a6, a7, a8, a9] (aQ l0 :: r) σ := ev_go f_Auc_find_178 rfl
theorem f_Auc_find_179 : fetch 1 179 = some (.getfield 9) := by decide +kernel
theorem e_Auc_find_179 (a0 a1 a2 a3 a4 a5 a6 a7 a8 a9 : AV) (σ : aM) (i : Int) (r : List AV)  : ev 1 179 [a0, a1, a2, a3, a4, a5, a6, a7, a8, a9] (aR 13 i :: r) σ = ev 1 182 [a0, a1, a2, a3, a4, a5, a6, a7, a8, a9] (aR 14 0 :: r) σ := ev_go f_Auc_find_179 rfl
theorem f_Auc_find_182 : fetch 1 182 = some (.iload 6) := by decide +kernel
theorem e_Auc_find_182 (a0 a1 a2 a3 a4 a5 a7 a8 a9 : AV) (σ : aM) (l6 : Int) (r : List AV)  : ev 1 182 [a0, a1, a2, a3, a4, a5, aI l6, a7, a8, a9] (r) σ = ev 1 184 [a0, a1, a2, a3, a4, a5, aI l6, a7, a8, a9] (aI l6 :: r) σ := ev_go f_Auc_find_182 rfl
theorem f_Auc_find_184 : fetch 1 184 = some (.iaload) := by decide +kernel
theorem e_Auc_find_184 (a0 a1 a2 a3 a4 a5 a6 a7 a8 a9 : AV) (σ : aM) (x : Int) (i : Int) (r : List AV) (h : 0 ≤ x ∧ x < 1000) : ev 1 184 [a0, a1, a2, a3, a4, a5, a6, a7, a8, a9] (aI x :: aR 14 i :: r) σ = ev 1 185 [a0, a1, a2, a3, a4, a5, a6, a7, a8, a9] (aI (gI σ 14 i x) :: r) σ := ev_ld (j := i) f_Auc_find_184 rfl rfl (by decide) rfl h
theorem f_Auc_find_185 : fetch 1 185 = some (.isub) := by decide +kernel
theorem e_Auc_find_185 (a0 a1 a2 a3 a4 a5 a6 a7 a8 a9 : AV) (σ : aM) (x z : Int) (r : List AV)  : ev 1 185 [a0, a1, a2, a3, a4, a5, a6, a7, a8, a9] (aI z :: aI x :: r) σ = ev 1 186 [a0, a1, a2, a3, a4, a5, a6, a7, a8, a9] (aI (wr (x - z)) :: r) σ := ev_go f_Auc_find_185 rfl
theorem f_Auc_find_186 : fetch 1 186 = some (.istore_n 3) := by decide +kernel
theorem e_Auc_find_186 (a0 a1 a3 a4 a5 a6 a7 a8 a9 : AV) (σ : aM) (x : Int) (l2 : Int) (r : List AV)  : ev 1 186 [a0, a1, aI l2, a3, a4, a5, a6, a7, a8, a9] (aI x :: r) σ = ev 1 187 [a0, a1, aI l2, aI x, a4, a5, a6, a7, a8, a9] (r) σ := ev_go f_Auc_find_186 rfl
theorem f_Auc_find_187 : fetch 1 187 = some (.iinc 6 1) := by decide +kernel
theorem e_Auc_find_187 (a0 a1 a2 a3 a4 a7 a8 a9 : AV) (σ : aM) (l6 : Int) (l5 : Int) (r : List AV)  : ev 1 187 [a0, a1, a2, a3, a4, aI l5, aI l6, a7, a8, a9] (r) σ = ev 1 190 [a0, a1, a2, a3, a4, aI l5, aI (wr (l6 + 1)), a7, a8, a9] (r) σ := ev_go f_Auc_find_187 rfl
theorem f_Auc_find_190 : fetch 1 190 = some (.goto (-141)) := by decide +kernel
theorem e_Auc_find_190 (a0 a1 a2 a3 a4 a5 a6 a7 a8 a9 : AV) (σ : aM) (r : List AV)  : ev 1 190 [a0, a1, a2, a3, a4, a5, a6, a7, a8, a9] (r) σ = ev 1 49 [a0, a1, a2, a3, a4, a5, a6, a7, a8, a9] (r) σ := ev_go f_Auc_find_190 rfl
theorem f_Auc_find_193 : fetch 1 193 = some (.return_) := by decide +kernel
theorem e_Auc_find_193 (a0 a1 a2 a3 a4 a5 a6 a7 a8 a9 : AV) (σ : aM)  : ev 1 193 [a0, a1, a2, a3, a4, a5, a6, a7, a8, a9] [] σ = some (none, σ) := ev_ret f_Auc_find_193 rfl
theorem f_Auc_gather_0 : fetch 2 0 = some (.aload_n 0) := by decide +kernel
theorem e_Auc_gather_0 (a1 a2 a3 a4 : AV) (σ : aM) (l0 : Option (Nat × Int)) (r : List AV)  : ev 2 0 [aQ l0, a1, a2, a3, a4] (r) σ = ev 2 1 [aQ l0, a1, a2, a3, a4] (aQ l0 :: r) σ := ev_go f_Auc_gather_0 rfl
theorem f_Auc_gather_1 : fetch 2 1 = some (.getfield 9) := by decide +kernel
theorem e_Auc_gather_1 (a0 a1 a2 a3 a4 : AV) (σ : aM) (i : Int) (r : List AV)  : ev 2 1 [a0, a1, a2, a3, a4] (aR 13 i :: r) σ = ev 2 4 [a0, a1, a2, a3, a4] (aR 14 0 :: r) σ := ev_go f_Auc_gather_1 rfl
theorem f_Auc_gather_4 : fetch 2 4 = some (.iconst 0) := by decide +kernel
theorem e_Auc_gather_4 (a0 a1 a2 a3 a4 : AV) (σ : aM) (r : List AV)  : ev 2 4 [a0, a1, a2, a3, a4] (r) σ = ev 2 5 [a0, a1, a2, a3, a4] (aI 0 :: r) σ := ev_go f_Auc_gather_4 rfl
theorem f_Auc_gather_5 : fetch 2 5 = some (.invokestatic 50) := by decide +kernel
theorem e_Auc_gather_5 (a0 a1 a2 a3 a4 : AV) (σ : aM) (s0 : Option (Nat × Int)) (s1 : Int) : ev 2 5 [a0, a1, a2, a3, a4] [aI s1, aQ s0] σ = evK 2 8 [a0, a1, a2, a3, a4] [] (ev 212 0 [aQ s0, aI s1, aU, aU] [] σ) := ev_call f_Auc_gather_5 rfl rfl
theorem f_Auc_gather_8 : fetch 2 8 = some (.aload_n 0) := by decide +kernel
theorem e_Auc_gather_8 (a1 a2 a3 a4 : AV) (σ : aM) (l0 : Option (Nat × Int)) (r : List AV)  : ev 2 8 [aQ l0, a1, a2, a3, a4] (r) σ = ev 2 9 [aQ l0, a1, a2, a3, a4] (aQ l0 :: r) σ := ev_go f_Auc_gather_8 rfl
theorem f_Auc_gather_9 : fetch 2 9 = some (.getfield 15) := by decide +kernel
theorem e_Auc_gather_9 (a0 a1 a2 a3 a4 : AV) (σ : aM) (i : Int) (r : List AV)  : ev 2 9 [a0, a1, a2, a3, a4] (aR 13 i :: r) σ = ev 2 12 [a0, a1, a2, a3, a4] (aR 15 0 :: r) σ := ev_go f_Auc_gather_9 rfl
theorem f_Auc_gather_12 : fetch 2 12 = some (.iconst 0) := by decide +kernel
theorem e_Auc_gather_12 (a0 a1 a2 a3 a4 : AV) (σ : aM) (r : List AV)  : ev 2 12 [a0, a1, a2, a3, a4] (r) σ = ev 2 13 [a0, a1, a2, a3, a4] (aI 0 :: r) σ := ev_go f_Auc_gather_12 rfl
theorem f_Auc_gather_13 : fetch 2 13 = some (.invokestatic 50) := by decide +kernel
theorem e_Auc_gather_13 (a0 a1 a2 a3 a4 : AV) (σ : aM) (s0 : Option (Nat × Int)) (s1 : Int) : ev 2 13 [a0, a1, a2, a3, a4] [aI s1, aQ s0] σ = evK 2 16 [a0, a1, a2, a3, a4] [] (ev 212 0 [aQ s0, aI s1, aU, aU] [] σ) := ev_call f_Auc_gather_13 rfl rfl
theorem f_Auc_gather_16 : fetch 2 16 = some (.iconst 0) := by decide +kernel
theorem e_Auc_gather_16 (a0 a1 a2 a3 a4 : AV) (σ : aM) (r : List AV)  : ev 2 16 [a0, a1, a2, a3, a4] (r) σ = ev 2 17 [a0, a1, a2, a3, a4] (aI 0 :: r) σ := ev_go f_Auc_gather_16 rfl
theorem f_Auc_gather_17 : fetch 2 17 = some (.istore_n 2) := by decide +kernel
theorem e_Auc_gather_17 (a0 a2 a3 a4 : AV) (σ : aM) (x : Int) (l1 : Option (Nat × Int)) (r : List AV)  : ev 2 17 [a0, aQ l1, a2, a3, a4] (aI x :: r) σ = ev 2 18 [a0, aQ l1, aI x, a3, a4] (r) σ := ev_go f_Auc_gather_17 rfl
theorem f_Auc_gather_18 : fetch 2 18 = some (.iconst 0) := by decide +kernel
theorem e_Auc_gather_18 (a0 a1 a2 a3 a4 : AV) (σ : aM) (r : List AV)  : ev 2 18 [a0, a1, a2, a3, a4] (r) σ = ev 2 19 [a0, a1, a2, a3, a4] (aI 0 :: r) σ := ev_go f_Auc_gather_18 rfl
theorem f_Auc_gather_19 : fetch 2 19 = some (.istore_n 3) := by decide +kernel
theorem e_Auc_gather_19 (a0 a1 a3 a4 : AV) (σ : aM) (x : Int) (l2 : Int) (r : List AV)  : ev 2 19 [a0, a1, aI l2, a3, a4] (aI x :: r) σ = ev 2 20 [a0, a1, aI l2, aI x, a4] (r) σ := ev_go f_Auc_gather_19 rfl
theorem f_Auc_gather_20 : fetch 2 20 = some (.iload_n 3) := by decide +kernel
theorem e_Auc_gather_20 (a0 a1 a2 a4 : AV) (σ : aM) (l3 : Int) (r : List AV)  : ev 2 20 [a0, a1, a2, aI l3, a4] (r) σ = ev 2 21 [a0, a1, a2, aI l3, a4] (aI l3 :: r) σ := ev_go f_Auc_gather_20 rfl
theorem f_Auc_gather_21 : fetch 2 21 = some (.aload_n 1) := by decide +kernel
theorem e_Auc_gather_21 (a0 a2 a3 a4 : AV) (σ : aM) (l1 : Option (Nat × Int)) (r : List AV)  : ev 2 21 [a0, aQ l1, a2, a3, a4] (r) σ = ev 2 22 [a0, aQ l1, a2, a3, a4] (aQ l1 :: r) σ := ev_go f_Auc_gather_21 rfl
theorem f_Auc_gather_22 : fetch 2 22 = some (.getfield 56) := by decide +kernel
theorem e_Auc_gather_22 (a0 a1 a2 a3 a4 : AV) (σ : aM) (i : Int) (r : List AV)  : ev 2 22 [a0, a1, a2, a3, a4] (aR 6 i :: r) σ = ev 2 25 [a0, a1, a2, a3, a4] (aI (gI σ 6 i 2) :: r) σ := ev_go f_Auc_gather_22 rfl
theorem f_Auc_gather_25 : fetch 2 25 = some (.if_icmp .ge 104) := by decide +kernel
theorem e_Auc_gather_25 (a0 a1 a2 a3 a4 : AV) (σ : aM) (x z : Int) (r : List AV) : ev 2 25 [a0, a1, a2, a3, a4] (aI z :: aI x :: r) σ = if z ≤ x then ev 2 129 [a0, a1, a2, a3, a4] r σ else ev 2 28 [a0, a1, a2, a3, a4] r σ := ev_br f_Auc_gather_25 rfl bc_ge
theorem f_Auc_gather_28 : fetch 2 28 = some (.aload_n 1) := by decide +kernel
theorem e_Auc_gather_28 (a0 a2 a3 a4 : AV) (σ : aM) (l1 : Option (Nat × Int)) (r : List AV)  : ev 2 28 [a0, aQ l1, a2, a3, a4] (r) σ = ev 2 29 [a0, aQ l1, a2, a3, a4] (aQ l1 :: r) σ := ev_go f_Auc_gather_28 rfl
theorem f_Auc_gather_29 : fetch 2 29 = some (.getfield 59) := by decide +kernel
theorem e_Auc_gather_29 (a0 a1 a2 a3 a4 : AV) (σ : aM) (i : Int) (r : List AV)  : ev 2 29 [a0, a1, a2, a3, a4] (aR 6 i :: r) σ = ev 2 32 [a0, a1, a2, a3, a4] (aR 7 i :: r) σ := ev_go f_Auc_gather_29 rfl
theorem f_Auc_gather_32 : fetch 2 32 = some (.iload_n 3) := by decide +kernel
theorem e_Auc_gather_32 (a0 a1 a2 a4 : AV) (σ : aM) (l3 : Int) (r : List AV)  : ev 2 32 [a0, a1, a2, aI l3, a4] (r) σ = ev 2 33 [a0, a1, a2, aI l3, a4] (aI l3 :: r) σ := ev_go f_Auc_gather_32 rfl
theorem f_Auc_gather_33 : fetch 2 33 = some (.aaload) := by decide +kernel
theorem e_Auc_gather_33 (a0 a1 a2 a3 a4 : AV) (σ : aM) (x : Int) (i : Int) (r : List AV) (h : 0 ≤ x ∧ x < 60) : ev 2 33 [a0, a1, a2, a3, a4] (aI x :: aR 7 i :: r) σ = ev 2 34 [a0, a1, a2, a3, a4] (aR 8 (60 * i + x) :: r) σ := ev_cd f_Auc_gather_33 rfl ⟨by decide, by decide, h.1, by rw [aLen_n (by decide) rfl]; exact h.2⟩
theorem f_Auc_gather_34 : fetch 2 34 = some (.astore 4) := by decide +kernel
theorem e_Auc_gather_34 (a0 a1 a2 a4 : AV) (σ : aM) (q : Option (Nat × Int)) (l3 : Int) (r : List AV)  : ev 2 34 [a0, a1, a2, aI l3, a4] (aQ q :: r) σ = ev 2 36 [a0, a1, a2, aI l3, aQ q] (r) σ := ev_go f_Auc_gather_34 rfl
theorem f_Auc_gather_36 : fetch 2 36 = some (.aload 4) := by decide +kernel
theorem e_Auc_gather_36 (a0 a1 a2 a3 : AV) (σ : aM) (l4 : Option (Nat × Int)) (r : List AV)  : ev 2 36 [a0, a1, a2, a3, aQ l4] (r) σ = ev 2 38 [a0, a1, a2, a3, aQ l4] (aQ l4 :: r) σ := ev_go f_Auc_gather_36 rfl
theorem f_Auc_gather_38 : fetch 2 38 = some (.getfield 63) := by decide +kernel
theorem e_Auc_gather_38 (a0 a1 a2 a3 a4 : AV) (σ : aM) (i : Int) (r : List AV)  : ev 2 38 [a0, a1, a2, a3, a4] (aR 8 i :: r) σ = ev 2 41 [a0, a1, a2, a3, a4] (aI (gI σ 8 i 5) :: r) σ := ev_go f_Auc_gather_38 rfl
theorem f_Auc_gather_41 : fetch 2 41 = some (.iconst 1) := by decide +kernel
theorem e_Auc_gather_41 (a0 a1 a2 a3 a4 : AV) (σ : aM) (r : List AV)  : ev 2 41 [a0, a1, a2, a3, a4] (r) σ = ev 2 42 [a0, a1, a2, a3, a4] (aI 1 :: r) σ := ev_go f_Auc_gather_41 rfl
theorem f_Auc_gather_42 : fetch 2 42 = some (.if_icmp .ne 81) := by decide +kernel
theorem e_Auc_gather_42 (a0 a1 a2 a3 a4 : AV) (σ : aM) (x z : Int) (r : List AV) : ev 2 42 [a0, a1, a2, a3, a4] (aI z :: aI x :: r) σ = if ¬ x = z then ev 2 123 [a0, a1, a2, a3, a4] r σ else ev 2 45 [a0, a1, a2, a3, a4] r σ := ev_br f_Auc_gather_42 rfl bc_ne
theorem f_Auc_gather_45 : fetch 2 45 = some (.aload 4) := by decide +kernel
theorem e_Auc_gather_45 (a0 a1 a2 a3 : AV) (σ : aM) (l4 : Option (Nat × Int)) (r : List AV)  : ev 2 45 [a0, a1, a2, a3, aQ l4] (r) σ = ev 2 47 [a0, a1, a2, a3, aQ l4] (aQ l4 :: r) σ := ev_go f_Auc_gather_45 rfl
theorem f_Auc_gather_47 : fetch 2 47 = some (.getfield 68) := by decide +kernel
theorem e_Auc_gather_47 (a0 a1 a2 a3 a4 : AV) (σ : aM) (i : Int) (r : List AV)  : ev 2 47 [a0, a1, a2, a3, a4] (aR 8 i :: r) σ = ev 2 50 [a0, a1, a2, a3, a4] (aI (gI σ 8 i 1) :: r) σ := ev_go f_Auc_gather_47 rfl
theorem f_Auc_gather_50 : fetch 2 50 = some (.iconst 3) := by decide +kernel
theorem e_Auc_gather_50 (a0 a1 a2 a3 a4 : AV) (σ : aM) (r : List AV)  : ev 2 50 [a0, a1, a2, a3, a4] (r) σ = ev 2 51 [a0, a1, a2, a3, a4] (aI 3 :: r) σ := ev_go f_Auc_gather_50 rfl
theorem f_Auc_gather_51 : fetch 2 51 = some (.if_icmp .eq 72) := by decide +kernel
theorem e_Auc_gather_51 (a0 a1 a2 a3 a4 : AV) (σ : aM) (x z : Int) (r : List AV) : ev 2 51 [a0, a1, a2, a3, a4] (aI z :: aI x :: r) σ = if x = z then ev 2 123 [a0, a1, a2, a3, a4] r σ else ev 2 54 [a0, a1, a2, a3, a4] r σ := ev_br f_Auc_gather_51 rfl bc_eq
theorem f_Auc_gather_54 : fetch 2 54 = some (.aload 4) := by decide +kernel
theorem e_Auc_gather_54 (a0 a1 a2 a3 : AV) (σ : aM) (l4 : Option (Nat × Int)) (r : List AV)  : ev 2 54 [a0, a1, a2, a3, aQ l4] (r) σ = ev 2 56 [a0, a1, a2, a3, aQ l4] (aQ l4 :: r) σ := ev_go f_Auc_gather_54 rfl
theorem f_Auc_gather_56 : fetch 2 56 = some (.getfield 71) := by decide +kernel
theorem e_Auc_gather_56 (a0 a1 a2 a3 a4 : AV) (σ : aM) (i : Int) (r : List AV)  : ev 2 56 [a0, a1, a2, a3, a4] (aR 8 i :: r) σ = ev 2 59 [a0, a1, a2, a3, a4] (aI (gI σ 8 i 7) :: r) σ := ev_go f_Auc_gather_56 rfl
theorem f_Auc_gather_59 : fetch 2 59 = some (.invokestatic 72) := by decide +kernel
theorem e_Auc_gather_59 (a0 a1 a2 a3 a4 : AV) (σ : aM) (s0 : Int) : ev 2 59 [a0, a1, a2, a3, a4] [aI s0] σ = evK 2 62 [a0, a1, a2, a3, a4] [] (ev 120 0 [aI s0] [] σ) := ev_call f_Auc_gather_59 rfl rfl
theorem f_Auc_gather_62 : fetch 2 62 = some (.ifCond .ne 6) := by decide +kernel
theorem e_Auc_gather_62 (a0 a1 a2 a3 a4 : AV) (σ : aM) (x : Int) (r : List AV) : ev 2 62 [a0, a1, a2, a3, a4] (aI x :: r) σ = if ¬ x = 0 then ev 2 68 [a0, a1, a2, a3, a4] r σ else ev 2 65 [a0, a1, a2, a3, a4] r σ := ev_br f_Auc_gather_62 rfl bc_ne
theorem f_Auc_gather_65 : fetch 2 65 = some (.goto 58) := by decide +kernel
theorem e_Auc_gather_65 (a0 a1 a2 a3 a4 : AV) (σ : aM) (r : List AV)  : ev 2 65 [a0, a1, a2, a3, a4] (r) σ = ev 2 123 [a0, a1, a2, a3, a4] (r) σ := ev_go f_Auc_gather_65 rfl
theorem f_Auc_gather_68 : fetch 2 68 = some (.aload 4) := by decide +kernel
theorem e_Auc_gather_68 (a0 a1 a2 a3 : AV) (σ : aM) (l4 : Option (Nat × Int)) (r : List AV)  : ev 2 68 [a0, a1, a2, a3, aQ l4] (r) σ = ev 2 70 [a0, a1, a2, a3, aQ l4] (aQ l4 :: r) σ := ev_go f_Auc_gather_68 rfl
theorem f_Auc_gather_70 : fetch 2 70 = some (.getfield 76) := by decide +kernel
theorem e_Auc_gather_70 (a0 a1 a2 a3 a4 : AV) (σ : aM) (i : Int) (r : List AV)  : ev 2 70 [a0, a1, a2, a3, a4] (aR 8 i :: r) σ = ev 2 73 [a0, a1, a2, a3, a4] (aI (gI σ 8 i 3) :: r) σ := ev_go f_Auc_gather_70 rfl
theorem f_Auc_gather_73 : fetch 2 73 = some (.ifCond .ne 32) := by decide +kernel
theorem e_Auc_gather_73 (a0 a1 a2 a3 a4 : AV) (σ : aM) (x : Int) (r : List AV) : ev 2 73 [a0, a1, a2, a3, a4] (aI x :: r) σ = if ¬ x = 0 then ev 2 105 [a0, a1, a2, a3, a4] r σ else ev 2 76 [a0, a1, a2, a3, a4] r σ := ev_br f_Auc_gather_73 rfl bc_ne
theorem f_Auc_gather_76 : fetch 2 76 = some (.aload_n 0) := by decide +kernel
theorem e_Auc_gather_76 (a1 a2 a3 a4 : AV) (σ : aM) (l0 : Option (Nat × Int)) (r : List AV)  : ev 2 76 [aQ l0, a1, a2, a3, a4] (r) σ = ev 2 77 [aQ l0, a1, a2, a3, a4] (aQ l0 :: r) σ := ev_go f_Auc_gather_76 rfl
theorem f_Auc_gather_77 : fetch 2 77 = some (.getfield 9) := by decide +kernel
theorem e_Auc_gather_77 (a0 a1 a2 a3 a4 : AV) (σ : aM) (i : Int) (r : List AV)  : ev 2 77 [a0, a1, a2, a3, a4] (aR 13 i :: r) σ = ev 2 80 [a0, a1, a2, a3, a4] (aR 14 0 :: r) σ := ev_go f_Auc_gather_77 rfl
theorem f_Auc_gather_80 : fetch 2 80 = some (.aload 4) := by decide +kernel
theorem e_Auc_gather_80 (a0 a1 a2 a3 : AV) (σ : aM) (l4 : Option (Nat × Int)) (r : List AV)  : ev 2 80 [a0, a1, a2, a3, aQ l4] (r) σ = ev 2 82 [a0, a1, a2, a3, aQ l4] (aQ l4 :: r) σ := ev_go f_Auc_gather_80 rfl
theorem f_Auc_gather_82 : fetch 2 82 = some (.getfield 71) := by decide +kernel
theorem e_Auc_gather_82 (a0 a1 a2 a3 a4 : AV) (σ : aM) (i : Int) (r : List AV)  : ev 2 82 [a0, a1, a2, a3, a4] (aR 8 i :: r) σ = ev 2 85 [a0, a1, a2, a3, a4] (aI (gI σ 8 i 7) :: r) σ := ev_go f_Auc_gather_82 rfl
theorem f_Auc_gather_85 : fetch 2 85 = some (.dup2) := by decide +kernel
theorem e_Auc_gather_85 (a0 a1 a2 a3 a4 : AV) (σ : aM) (x : Int) (z : Option (Nat × Int)) (r : List AV)  : ev 2 85 [a0, a1, a2, a3, a4] (aI x :: aQ z :: r) σ = ev 2 86 [a0, a1, a2, a3, a4] (aI x :: aQ z :: aI x :: aQ z :: r) σ := ev_go f_Auc_gather_85 rfl
theorem f_Auc_gather_86 : fetch 2 86 = some (.iaload) := by decide +kernel
theorem e_Auc_gather_86 (a0 a1 a2 a3 a4 : AV) (σ : aM) (x : Int) (i : Int) (r : List AV) (h : 0 ≤ x ∧ x < 1000) : ev 2 86 [a0, a1, a2, a3, a4] (aI x :: aR 14 i :: r) σ = ev 2 87 [a0, a1, a2, a3, a4] (aI (gI σ 14 i x) :: r) σ := ev_ld (j := i) f_Auc_gather_86 rfl rfl (by decide) rfl h
theorem f_Auc_gather_87 : fetch 2 87 = some (.aload 4) := by decide +kernel
theorem e_Auc_gather_87 (a0 a1 a2 a3 : AV) (σ : aM) (l4 : Option (Nat × Int)) (r : List AV)  : ev 2 87 [a0, a1, a2, a3, aQ l4] (r) σ = ev 2 89 [a0, a1, a2, a3, aQ l4] (aQ l4 :: r) σ := ev_go f_Auc_gather_87 rfl
theorem f_Auc_gather_89 : fetch 2 89 = some (.getfield 79) := by decide +kernel
theorem e_Auc_gather_89 (a0 a1 a2 a3 a4 : AV) (σ : aM) (i : Int) (r : List AV)  : ev 2 89 [a0, a1, a2, a3, a4] (aR 8 i :: r) σ = ev 2 92 [a0, a1, a2, a3, a4] (aI (gI σ 8 i 4) :: r) σ := ev_go f_Auc_gather_89 rfl
theorem f_Auc_gather_92 : fetch 2 92 = some (.iadd) := by decide +kernel
theorem e_Auc_gather_92 (a0 a1 a2 a3 a4 : AV) (σ : aM) (x z : Int) (r : List AV)  : ev 2 92 [a0, a1, a2, a3, a4] (aI z :: aI x :: r) σ = ev 2 93 [a0, a1, a2, a3, a4] (aI (wr (x + z)) :: r) σ := ev_go f_Auc_gather_92 rfl
theorem f_Auc_gather_93 : fetch 2 93 = some (.iastore) := by decide +kernel
theorem e_Auc_gather_93 (a0 a1 a2 a3 a4 : AV) (σ : aM) (x : Int) (i : Int) (v : Int) (r : List AV) (h : 0 ≤ x ∧ x < 1000) : ev 2 93 [a0, a1, a2, a3, a4] (aI v :: aI x :: aR 14 i :: r) σ = ev 2 94 [a0, a1, a2, a3, a4] (r) (uI σ 14 i x v) := ev_st f_Auc_gather_93 rfl rfl (by decide) (by decide) rfl h
theorem f_Auc_gather_94 : fetch 2 94 = some (.iload_n 2) := by decide +kernel
theorem e_Auc_gather_94 (a0 a1 a3 a4 : AV) (σ : aM) (l2 : Int) (r : List AV)  : ev 2 94 [a0, a1, aI l2, a3, a4] (r) σ = ev 2 95 [a0, a1, aI l2, a3, a4] (aI l2 :: r) σ := ev_go f_Auc_gather_94 rfl
theorem f_Auc_gather_95 : fetch 2 95 = some (.aload 4) := by decide +kernel
theorem e_Auc_gather_95 (a0 a1 a2 a3 : AV) (σ : aM) (l4 : Option (Nat × Int)) (r : List AV)  : ev 2 95 [a0, a1, a2, a3, aQ l4] (r) σ = ev 2 97 [a0, a1, a2, a3, aQ l4] (aQ l4 :: r) σ := ev_go f_Auc_gather_95 rfl
theorem f_Auc_gather_97 : fetch 2 97 = some (.getfield 79) := by decide +kernel
theorem e_Auc_gather_97 (a0 a1 a2 a3 a4 : AV) (σ : aM) (i : Int) (r : List AV)  : ev 2 97 [a0, a1, a2, a3, a4] (aR 8 i :: r) σ = ev 2 100 [a0, a1, a2, a3, a4] (aI (gI σ 8 i 4) :: r) σ := ev_go f_Auc_gather_97 rfl
theorem f_Auc_gather_100 : fetch 2 100 = some (.iadd) := by decide +kernel
theorem e_Auc_gather_100 (a0 a1 a2 a3 a4 : AV) (σ : aM) (x z : Int) (r : List AV)  : ev 2 100 [a0, a1, a2, a3, a4] (aI z :: aI x :: r) σ = ev 2 101 [a0, a1, a2, a3, a4] (aI (wr (x + z)) :: r) σ := ev_go f_Auc_gather_100 rfl
theorem f_Auc_gather_101 : fetch 2 101 = some (.istore_n 2) := by decide +kernel
theorem e_Auc_gather_101 (a0 a2 a3 a4 : AV) (σ : aM) (x : Int) (l1 : Option (Nat × Int)) (r : List AV)  : ev 2 101 [a0, aQ l1, a2, a3, a4] (aI x :: r) σ = ev 2 102 [a0, aQ l1, aI x, a3, a4] (r) σ := ev_go f_Auc_gather_101 rfl
theorem f_Auc_gather_102 : fetch 2 102 = some (.goto 21) := by decide +kernel
theorem e_Auc_gather_102 (a0 a1 a2 a3 a4 : AV) (σ : aM) (r : List AV)  : ev 2 102 [a0, a1, a2, a3, a4] (r) σ = ev 2 123 [a0, a1, a2, a3, a4] (r) σ := ev_go f_Auc_gather_102 rfl
theorem f_Auc_gather_105 : fetch 2 105 = some (.aload_n 0) := by decide +kernel
theorem e_Auc_gather_105 (a1 a2 a3 a4 : AV) (σ : aM) (l0 : Option (Nat × Int)) (r : List AV)  : ev 2 105 [aQ l0, a1, a2, a3, a4] (r) σ = ev 2 106 [aQ l0, a1, a2, a3, a4] (aQ l0 :: r) σ := ev_go f_Auc_gather_105 rfl
theorem f_Auc_gather_106 : fetch 2 106 = some (.getfield 15) := by decide +kernel
theorem e_Auc_gather_106 (a0 a1 a2 a3 a4 : AV) (σ : aM) (i : Int) (r : List AV)  : ev 2 106 [a0, a1, a2, a3, a4] (aR 13 i :: r) σ = ev 2 109 [a0, a1, a2, a3, a4] (aR 15 0 :: r) σ := ev_go f_Auc_gather_106 rfl
theorem f_Auc_gather_109 : fetch 2 109 = some (.aload 4) := by decide +kernel
theorem e_Auc_gather_109 (a0 a1 a2 a3 : AV) (σ : aM) (l4 : Option (Nat × Int)) (r : List AV)  : ev 2 109 [a0, a1, a2, a3, aQ l4] (r) σ = ev 2 111 [a0, a1, a2, a3, aQ l4] (aQ l4 :: r) σ := ev_go f_Auc_gather_109 rfl
theorem f_Auc_gather_111 : fetch 2 111 = some (.getfield 71) := by decide +kernel
theorem e_Auc_gather_111 (a0 a1 a2 a3 a4 : AV) (σ : aM) (i : Int) (r : List AV)  : ev 2 111 [a0, a1, a2, a3, a4] (aR 8 i :: r) σ = ev 2 114 [a0, a1, a2, a3, a4] (aI (gI σ 8 i 7) :: r) σ := ev_go f_Auc_gather_111 rfl
theorem f_Auc_gather_114 : fetch 2 114 = some (.dup2) := by decide +kernel
theorem e_Auc_gather_114 (a0 a1 a2 a3 a4 : AV) (σ : aM) (x : Int) (z : Option (Nat × Int)) (r : List AV)  : ev 2 114 [a0, a1, a2, a3, a4] (aI x :: aQ z :: r) σ = ev 2 115 [a0, a1, a2, a3, a4] (aI x :: aQ z :: aI x :: aQ z :: r) σ := ev_go f_Auc_gather_114 rfl
theorem f_Auc_gather_115 : fetch 2 115 = some (.iaload) := by decide +kernel
theorem e_Auc_gather_115 (a0 a1 a2 a3 a4 : AV) (σ : aM) (x : Int) (i : Int) (r : List AV) (h : 0 ≤ x ∧ x < 1000) : ev 2 115 [a0, a1, a2, a3, a4] (aI x :: aR 15 i :: r) σ = ev 2 116 [a0, a1, a2, a3, a4] (aI (gI σ 15 i x) :: r) σ := ev_ld (j := i) f_Auc_gather_115 rfl rfl (by decide) rfl h
theorem f_Auc_gather_116 : fetch 2 116 = some (.aload 4) := by decide +kernel
theorem e_Auc_gather_116 (a0 a1 a2 a3 : AV) (σ : aM) (l4 : Option (Nat × Int)) (r : List AV)  : ev 2 116 [a0, a1, a2, a3, aQ l4] (r) σ = ev 2 118 [a0, a1, a2, a3, aQ l4] (aQ l4 :: r) σ := ev_go f_Auc_gather_116 rfl
theorem f_Auc_gather_118 : fetch 2 118 = some (.getfield 79) := by decide +kernel
theorem e_Auc_gather_118 (a0 a1 a2 a3 a4 : AV) (σ : aM) (i : Int) (r : List AV)  : ev 2 118 [a0, a1, a2, a3, a4] (aR 8 i :: r) σ = ev 2 121 [a0, a1, a2, a3, a4] (aI (gI σ 8 i 4) :: r) σ := ev_go f_Auc_gather_118 rfl
theorem f_Auc_gather_121 : fetch 2 121 = some (.iadd) := by decide +kernel
theorem e_Auc_gather_121 (a0 a1 a2 a3 a4 : AV) (σ : aM) (x z : Int) (r : List AV)  : ev 2 121 [a0, a1, a2, a3, a4] (aI z :: aI x :: r) σ = ev 2 122 [a0, a1, a2, a3, a4] (aI (wr (x + z)) :: r) σ := ev_go f_Auc_gather_121 rfl
theorem f_Auc_gather_122 : fetch 2 122 = some (.iastore) := by decide +kernel
theorem e_Auc_gather_122 (a0 a1 a2 a3 a4 : AV) (σ : aM) (x : Int) (i : Int) (v : Int) (r : List AV) (h : 0 ≤ x ∧ x < 1000) : ev 2 122 [a0, a1, a2, a3, a4] (aI v :: aI x :: aR 15 i :: r) σ = ev 2 123 [a0, a1, a2, a3, a4] (r) (uI σ 15 i x v) := ev_st f_Auc_gather_122 rfl rfl (by decide) (by decide) rfl h
theorem f_Auc_gather_123 : fetch 2 123 = some (.iinc 3 1) := by decide +kernel
theorem e_Auc_gather_123 (a0 a1 a4 : AV) (σ : aM) (l3 : Int) (l2 : Int) (r : List AV)  : ev 2 123 [a0, a1, aI l2, aI l3, a4] (r) σ = ev 2 126 [a0, a1, aI l2, aI (wr (l3 + 1)), a4] (r) σ := ev_go f_Auc_gather_123 rfl
theorem f_Auc_gather_126 : fetch 2 126 = some (.goto (-106)) := by decide +kernel
theorem e_Auc_gather_126 (a0 a1 a2 a3 a4 : AV) (σ : aM) (r : List AV)  : ev 2 126 [a0, a1, a2, a3, a4] (r) σ = ev 2 20 [a0, a1, a2, a3, a4] (r) σ := ev_go f_Auc_gather_126 rfl
theorem f_Auc_gather_129 : fetch 2 129 = some (.iload_n 2) := by decide +kernel
theorem e_Auc_gather_129 (a0 a1 a3 a4 : AV) (σ : aM) (l2 : Int) (r : List AV)  : ev 2 129 [a0, a1, aI l2, a3, a4] (r) σ = ev 2 130 [a0, a1, aI l2, a3, a4] (aI l2 :: r) σ := ev_go f_Auc_gather_129 rfl
theorem f_Auc_gather_130 : fetch 2 130 = some (.ireturn) := by decide +kernel
theorem e_Auc_gather_130 (a0 a1 a2 a3 a4 : AV) (σ : aM) (x : Int) : ev 2 130 [a0, a1, a2, a3, a4] [aI x] σ = some ((some (aI x)), σ) := ev_ret f_Auc_gather_130 rfl
theorem f_Bk_takeOver_0 : fetch 4 0 = some (.iconst 0) := by decide +kernel
theorem e_Bk_takeOver_0 (a0 a1 a2 : AV) (σ : aM) (r : List AV)  : ev 4 0 [a0, a1, a2] (r) σ = ev 4 1 [a0, a1, a2] (aI 0 :: r) σ := ev_go f_Bk_takeOver_0 rfl
theorem f_Bk_takeOver_1 : fetch 4 1 = some (.istore_n 2) := by decide +kernel
theorem e_Bk_takeOver_1 (a0 a2 : AV) (σ : aM) (x : Int) (l1 : Option (Nat × Int)) (r : List AV)  : ev 4 1 [a0, aQ l1, a2] (aI x :: r) σ = ev 4 2 [a0, aQ l1, aI x] (r) σ := ev_go f_Bk_takeOver_1 rfl
theorem f_Bk_takeOver_2 : fetch 4 2 = some (.iload_n 2) := by decide +kernel
theorem e_Bk_takeOver_2 (a0 a1 : AV) (σ : aM) (l2 : Int) (r : List AV)  : ev 4 2 [a0, a1, aI l2] (r) σ = ev 4 3 [a0, a1, aI l2] (aI l2 :: r) σ := ev_go f_Bk_takeOver_2 rfl
theorem f_Bk_takeOver_3 : fetch 4 3 = some (.aload_n 1) := by decide +kernel
theorem e_Bk_takeOver_3 (a0 a2 : AV) (σ : aM) (l1 : Option (Nat × Int)) (r : List AV)  : ev 4 3 [a0, aQ l1, a2] (r) σ = ev 4 4 [a0, aQ l1, a2] (aQ l1 :: r) σ := ev_go f_Bk_takeOver_3 rfl
theorem f_Bk_takeOver_4 : fetch 4 4 = some (.getfield 24) := by decide +kernel
theorem e_Bk_takeOver_4 (a0 a1 a2 : AV) (σ : aM) (i : Int) (r : List AV)  : ev 4 4 [a0, a1, a2] (aR 6 i :: r) σ = ev 4 7 [a0, a1, a2] (aI (gI σ 6 i 2) :: r) σ := ev_go f_Bk_takeOver_4 rfl
theorem f_Bk_takeOver_7 : fetch 4 7 = some (.if_icmp .ge 24) := by decide +kernel
theorem e_Bk_takeOver_7 (a0 a1 a2 : AV) (σ : aM) (x z : Int) (r : List AV) : ev 4 7 [a0, a1, a2] (aI z :: aI x :: r) σ = if z ≤ x then ev 4 31 [a0, a1, a2] r σ else ev 4 10 [a0, a1, a2] r σ := ev_br f_Bk_takeOver_7 rfl bc_ge
theorem f_Bk_takeOver_10 : fetch 4 10 = some (.aload_n 0) := by decide +kernel
theorem e_Bk_takeOver_10 (a1 a2 : AV) (σ : aM) (l0 : Option (Nat × Int)) (r : List AV)  : ev 4 10 [aQ l0, a1, a2] (r) σ = ev 4 11 [aQ l0, a1, a2] (aQ l0 :: r) σ := ev_go f_Bk_takeOver_10 rfl
theorem f_Bk_takeOver_11 : fetch 4 11 = some (.getfield 11) := by decide +kernel
theorem e_Bk_takeOver_11 (a0 a1 a2 : AV) (σ : aM) (i : Int) (r : List AV)  : ev 4 11 [a0, a1, a2] (aR 6 i :: r) σ = ev 4 14 [a0, a1, a2] (aR 7 i :: r) σ := ev_go f_Bk_takeOver_11 rfl
theorem f_Bk_takeOver_14 : fetch 4 14 = some (.iload_n 2) := by decide +kernel
theorem e_Bk_takeOver_14 (a0 a1 : AV) (σ : aM) (l2 : Int) (r : List AV)  : ev 4 14 [a0, a1, aI l2] (r) σ = ev 4 15 [a0, a1, aI l2] (aI l2 :: r) σ := ev_go f_Bk_takeOver_14 rfl
theorem f_Bk_takeOver_15 : fetch 4 15 = some (.aaload) := by decide +kernel
theorem e_Bk_takeOver_15 (a0 a1 a2 : AV) (σ : aM) (x : Int) (i : Int) (r : List AV) (h : 0 ≤ x ∧ x < 60) : ev 4 15 [a0, a1, a2] (aI x :: aR 7 i :: r) σ = ev 4 16 [a0, a1, a2] (aR 8 (60 * i + x) :: r) σ := ev_cd f_Bk_takeOver_15 rfl ⟨by decide, by decide, h.1, by rw [aLen_n (by decide) rfl]; exact h.2⟩
theorem f_Bk_takeOver_16 : fetch 4 16 = some (.aload_n 1) := by decide +kernel
theorem e_Bk_takeOver_16 (a0 a2 : AV) (σ : aM) (l1 : Option (Nat × Int)) (r : List AV)  : ev 4 16 [a0, aQ l1, a2] (r) σ = ev 4 17 [a0, aQ l1, a2] (aQ l1 :: r) σ := ev_go f_Bk_takeOver_16 rfl
theorem f_Bk_takeOver_17 : fetch 4 17 = some (.getfield 11) := by decide +kernel
theorem e_Bk_takeOver_17 (a0 a1 a2 : AV) (σ : aM) (i : Int) (r : List AV)  : ev 4 17 [a0, a1, a2] (aR 6 i :: r) σ = ev 4 20 [a0, a1, a2] (aR 7 i :: r) σ := ev_go f_Bk_takeOver_17 rfl
theorem f_Bk_takeOver_20 : fetch 4 20 = some (.iload_n 2) := by decide +kernel
theorem e_Bk_takeOver_20 (a0 a1 : AV) (σ : aM) (l2 : Int) (r : List AV)  : ev 4 20 [a0, a1, aI l2] (r) σ = ev 4 21 [a0, a1, aI l2] (aI l2 :: r) σ := ev_go f_Bk_takeOver_20 rfl
theorem f_Bk_takeOver_21 : fetch 4 21 = some (.aaload) := by decide +kernel
theorem e_Bk_takeOver_21 (a0 a1 a2 : AV) (σ : aM) (x : Int) (i : Int) (r : List AV) (h : 0 ≤ x ∧ x < 60) : ev 4 21 [a0, a1, a2] (aI x :: aR 7 i :: r) σ = ev 4 22 [a0, a1, a2] (aR 8 (60 * i + x) :: r) σ := ev_cd f_Bk_takeOver_21 rfl ⟨by decide, by decide, h.1, by rw [aLen_n (by decide) rfl]; exact h.2⟩
theorem f_Bk_takeOver_22 : fetch 4 22 = some (.invokevirtual 43) := by decide +kernel
theorem e_Bk_takeOver_22 (a0 a1 a2 : AV) (σ : aM) (s0 : Int) (s1 : Option (Nat × Int)) : ev 4 22 [a0, a1, a2] [aQ s1, aR 8 s0] σ = evK 4 25 [a0, a1, a2] [] (ev 35 0 [aR 8 s0, aQ s1] [] σ) := ev_call f_Bk_takeOver_22 rfl rfl
theorem f_Bk_takeOver_25 : fetch 4 25 = some (.iinc 2 1) := by decide +kernel
theorem e_Bk_takeOver_25 (a0 : AV) (σ : aM) (l2 : Int) (l1 : Option (Nat × Int)) (r : List AV)  : ev 4 25 [a0, aQ l1, aI l2] (r) σ = ev 4 28 [a0, aQ l1, aI (wr (l2 + 1))] (r) σ := ev_go f_Bk_takeOver_25 rfl
theorem f_Bk_takeOver_28 : fetch 4 28 = some (.goto (-26)) := by decide +kernel
theorem e_Bk_takeOver_28 (a0 a1 a2 : AV) (σ : aM) (r : List AV)  : ev 4 28 [a0, a1, a2] (r) σ = ev 4 2 [a0, a1, a2] (r) σ := ev_go f_Bk_takeOver_28 rfl
theorem f_Bk_takeOver_31 : fetch 4 31 = some (.aload_n 0) := by decide +kernel
theorem e_Bk_takeOver_31 (a1 a2 : AV) (σ : aM) (l0 : Option (Nat × Int)) (r : List AV)  : ev 4 31 [aQ l0, a1, a2] (r) σ = ev 4 32 [aQ l0, a1, a2] (aQ l0 :: r) σ := ev_go f_Bk_takeOver_31 rfl
theorem f_Bk_takeOver_32 : fetch 4 32 = some (.getfield 20) := by decide +kernel
theorem e_Bk_takeOver_32 (a0 a1 a2 : AV) (σ : aM) (i : Int) (r : List AV)  : ev 4 32 [a0, a1, a2] (aR 6 i :: r) σ = ev 4 35 [a0, a1, a2] (aR 9 i :: r) σ := ev_go f_Bk_takeOver_32 rfl
theorem f_Bk_takeOver_35 : fetch 4 35 = some (.aload_n 1) := by decide +kernel
theorem e_Bk_takeOver_35 (a0 a2 : AV) (σ : aM) (l1 : Option (Nat × Int)) (r : List AV)  : ev 4 35 [a0, aQ l1, a2] (r) σ = ev 4 36 [a0, aQ l1, a2] (aQ l1 :: r) σ := ev_go f_Bk_takeOver_35 rfl
theorem f_Bk_takeOver_36 : fetch 4 36 = some (.getfield 20) := by decide +kernel
theorem e_Bk_takeOver_36 (a0 a1 a2 : AV) (σ : aM) (i : Int) (r : List AV)  : ev 4 36 [a0, a1, a2] (aR 6 i :: r) σ = ev 4 39 [a0, a1, a2] (aR 9 i :: r) σ := ev_go f_Bk_takeOver_36 rfl
theorem f_Bk_takeOver_39 : fetch 4 39 = some (.invokevirtual 47) := by decide +kernel
theorem e_Bk_takeOver_39 (a0 a1 a2 : AV) (σ : aM) (s0 : Int) (s1 : Option (Nat × Int)) : ev 4 39 [a0, a1, a2] [aQ s1, aR 9 s0] σ = evK 4 42 [a0, a1, a2] [] (ev 72 0 [aR 9 s0, aQ s1] [] σ) := ev_call f_Bk_takeOver_39 rfl rfl
theorem f_Bk_takeOver_42 : fetch 4 42 = some (.aload_n 0) := by decide +kernel
theorem e_Bk_takeOver_42 (a1 a2 : AV) (σ : aM) (l0 : Option (Nat × Int)) (r : List AV)  : ev 4 42 [aQ l0, a1, a2] (r) σ = ev 4 43 [aQ l0, a1, a2] (aQ l0 :: r) σ := ev_go f_Bk_takeOver_42 rfl
theorem f_Bk_takeOver_43 : fetch 4 43 = some (.aload_n 1) := by decide +kernel
theorem e_Bk_takeOver_43 (a0 a2 : AV) (σ : aM) (l1 : Option (Nat × Int)) (r : List AV)  : ev 4 43 [a0, aQ l1, a2] (r) σ = ev 4 44 [a0, aQ l1, a2] (aQ l1 :: r) σ := ev_go f_Bk_takeOver_43 rfl
theorem f_Bk_takeOver_44 : fetch 4 44 = some (.getfield 24) := by decide +kernel
theorem e_Bk_takeOver_44 (a0 a1 a2 : AV) (σ : aM) (i : Int) (r : List AV)  : ev 4 44 [a0, a1, a2] (aR 6 i :: r) σ = ev 4 47 [a0, a1, a2] (aI (gI σ 6 i 2) :: r) σ := ev_go f_Bk_takeOver_44 rfl
theorem f_Bk_takeOver_47 : fetch 4 47 = some (.putfield 24) := by decide +kernel
theorem e_Bk_takeOver_47 (a0 a1 a2 : AV) (σ : aM) (i : Int) (x : Int) (r : List AV)  : ev 4 47 [a0, a1, a2] (aI x :: aR 6 i :: r) σ = ev 4 50 [a0, a1, a2] (r) (uI σ 6 i 2 x) := ev_go f_Bk_takeOver_47 rfl
theorem f_Bk_takeOver_50 : fetch 4 50 = some (.aload_n 0) := by decide +kernel
theorem e_Bk_takeOver_50 (a1 a2 : AV) (σ : aM) (l0 : Option (Nat × Int)) (r : List AV)  : ev 4 50 [aQ l0, a1, a2] (r) σ = ev 4 51 [aQ l0, a1, a2] (aQ l0 :: r) σ := ev_go f_Bk_takeOver_50 rfl
theorem f_Bk_takeOver_51 : fetch 4 51 = some (.aload_n 1) := by decide +kernel
theorem e_Bk_takeOver_51 (a0 a2 : AV) (σ : aM) (l1 : Option (Nat × Int)) (r : List AV)  : ev 4 51 [a0, aQ l1, a2] (r) σ = ev 4 52 [a0, aQ l1, a2] (aQ l1 :: r) σ := ev_go f_Bk_takeOver_51 rfl
theorem f_Bk_takeOver_52 : fetch 4 52 = some (.getfield 28) := by decide +kernel
theorem e_Bk_takeOver_52 (a0 a1 a2 : AV) (σ : aM) (i : Int) (r : List AV)  : ev 4 52 [a0, a1, a2] (aR 6 i :: r) σ = ev 4 55 [a0, a1, a2] (aI (gI σ 6 i 3) :: r) σ := ev_go f_Bk_takeOver_52 rfl
theorem f_Bk_takeOver_55 : fetch 4 55 = some (.putfield 28) := by decide +kernel
theorem e_Bk_takeOver_55 (a0 a1 a2 : AV) (σ : aM) (i : Int) (x : Int) (r : List AV)  : ev 4 55 [a0, a1, a2] (aI x :: aR 6 i :: r) σ = ev 4 58 [a0, a1, a2] (r) (uI σ 6 i 3 x) := ev_go f_Bk_takeOver_55 rfl
theorem f_Bk_takeOver_58 : fetch 4 58 = some (.aload_n 0) := by decide +kernel
theorem e_Bk_takeOver_58 (a1 a2 : AV) (σ : aM) (l0 : Option (Nat × Int)) (r : List AV)  : ev 4 58 [aQ l0, a1, a2] (r) σ = ev 4 59 [aQ l0, a1, a2] (aQ l0 :: r) σ := ev_go f_Bk_takeOver_58 rfl
theorem f_Bk_takeOver_59 : fetch 4 59 = some (.aload_n 1) := by decide +kernel
theorem e_Bk_takeOver_59 (a0 a2 : AV) (σ : aM) (l1 : Option (Nat × Int)) (r : List AV)  : ev 4 59 [a0, aQ l1, a2] (r) σ = ev 4 60 [a0, aQ l1, a2] (aQ l1 :: r) σ := ev_go f_Bk_takeOver_59 rfl
theorem f_Bk_takeOver_60 : fetch 4 60 = some (.getfield 31) := by decide +kernel
theorem e_Bk_takeOver_60 (a0 a1 a2 : AV) (σ : aM) (i : Int) (r : List AV)  : ev 4 60 [a0, a1, a2] (aR 6 i :: r) σ = ev 4 63 [a0, a1, a2] (aI (gI σ 6 i 4) :: r) σ := ev_go f_Bk_takeOver_60 rfl
theorem f_Bk_takeOver_63 : fetch 4 63 = some (.putfield 31) := by decide +kernel
theorem e_Bk_takeOver_63 (a0 a1 a2 : AV) (σ : aM) (i : Int) (x : Int) (r : List AV)  : ev 4 63 [a0, a1, a2] (aI x :: aR 6 i :: r) σ = ev 4 66 [a0, a1, a2] (r) (uI σ 6 i 4 x) := ev_go f_Bk_takeOver_63 rfl
theorem f_Bk_takeOver_66 : fetch 4 66 = some (.aload_n 0) := by decide +kernel
theorem e_Bk_takeOver_66 (a1 a2 : AV) (σ : aM) (l0 : Option (Nat × Int)) (r : List AV)  : ev 4 66 [aQ l0, a1, a2] (r) σ = ev 4 67 [aQ l0, a1, a2] (aQ l0 :: r) σ := ev_go f_Bk_takeOver_66 rfl
theorem f_Bk_takeOver_67 : fetch 4 67 = some (.aload_n 1) := by decide +kernel
theorem e_Bk_takeOver_67 (a0 a2 : AV) (σ : aM) (l1 : Option (Nat × Int)) (r : List AV)  : ev 4 67 [a0, aQ l1, a2] (r) σ = ev 4 68 [a0, aQ l1, a2] (aQ l1 :: r) σ := ev_go f_Bk_takeOver_67 rfl
theorem f_Bk_takeOver_68 : fetch 4 68 = some (.getfield 34) := by decide +kernel
theorem e_Bk_takeOver_68 (a0 a1 a2 : AV) (σ : aM) (i : Int) (r : List AV)  : ev 4 68 [a0, a1, a2] (aR 6 i :: r) σ = ev 4 71 [a0, a1, a2] (aI (gI σ 6 i 5) :: r) σ := ev_go f_Bk_takeOver_68 rfl
theorem f_Bk_takeOver_71 : fetch 4 71 = some (.putfield 34) := by decide +kernel
theorem e_Bk_takeOver_71 (a0 a1 a2 : AV) (σ : aM) (i : Int) (x : Int) (r : List AV)  : ev 4 71 [a0, a1, a2] (aI x :: aR 6 i :: r) σ = ev 4 74 [a0, a1, a2] (r) (uI σ 6 i 5 x) := ev_go f_Bk_takeOver_71 rfl
theorem f_Bk_takeOver_74 : fetch 4 74 = some (.aload_n 0) := by decide +kernel
theorem e_Bk_takeOver_74 (a1 a2 : AV) (σ : aM) (l0 : Option (Nat × Int)) (r : List AV)  : ev 4 74 [aQ l0, a1, a2] (r) σ = ev 4 75 [aQ l0, a1, a2] (aQ l0 :: r) σ := ev_go f_Bk_takeOver_74 rfl
theorem f_Bk_takeOver_75 : fetch 4 75 = some (.aload_n 1) := by decide +kernel
theorem e_Bk_takeOver_75 (a0 a2 : AV) (σ : aM) (l1 : Option (Nat × Int)) (r : List AV)  : ev 4 75 [a0, aQ l1, a2] (r) σ = ev 4 76 [a0, aQ l1, a2] (aQ l1 :: r) σ := ev_go f_Bk_takeOver_75 rfl
theorem f_Bk_takeOver_76 : fetch 4 76 = some (.getfield 37) := by decide +kernel
theorem e_Bk_takeOver_76 (a0 a1 a2 : AV) (σ : aM) (i : Int) (r : List AV)  : ev 4 76 [a0, a1, a2] (aR 6 i :: r) σ = ev 4 79 [a0, a1, a2] (aI (gI σ 6 i 6) :: r) σ := ev_go f_Bk_takeOver_76 rfl
theorem f_Bk_takeOver_79 : fetch 4 79 = some (.putfield 37) := by decide +kernel
theorem e_Bk_takeOver_79 (a0 a1 a2 : AV) (σ : aM) (i : Int) (x : Int) (r : List AV)  : ev 4 79 [a0, a1, a2] (aI x :: aR 6 i :: r) σ = ev 4 82 [a0, a1, a2] (r) (uI σ 6 i 6 x) := ev_go f_Bk_takeOver_79 rfl
theorem f_Bk_takeOver_82 : fetch 4 82 = some (.return_) := by decide +kernel
theorem e_Bk_takeOver_82 (a0 a1 a2 : AV) (σ : aM)  : ev 4 82 [a0, a1, a2] [] σ = some (none, σ) := ev_ret f_Bk_takeOver_82 rfl
theorem f_Bk_orderAt_0 : fetch 5 0 = some (.iload_n 1) := by decide +kernel
theorem e_Bk_orderAt_0 (a0 : AV) (σ : aM) (l1 : Int) (r : List AV)  : ev 5 0 [a0, aI l1] (r) σ = ev 5 1 [a0, aI l1] (aI l1 :: r) σ := ev_go f_Bk_orderAt_0 rfl
theorem f_Bk_orderAt_1 : fetch 5 1 = some (.ifCond .lt 20) := by decide +kernel
theorem e_Bk_orderAt_1 (a0 a1 : AV) (σ : aM) (x : Int) (r : List AV) : ev 5 1 [a0, a1] (aI x :: r) σ = if x < 0 then ev 5 21 [a0, a1] r σ else ev 5 4 [a0, a1] r σ := ev_br f_Bk_orderAt_1 rfl bc_lt
theorem f_Bk_orderAt_4 : fetch 5 4 = some (.iload_n 1) := by decide +kernel
theorem e_Bk_orderAt_4 (a0 : AV) (σ : aM) (l1 : Int) (r : List AV)  : ev 5 4 [a0, aI l1] (r) σ = ev 5 5 [a0, aI l1] (aI l1 :: r) σ := ev_go f_Bk_orderAt_4 rfl
theorem f_Bk_orderAt_5 : fetch 5 5 = some (.aload_n 0) := by decide +kernel
theorem e_Bk_orderAt_5 (a1 : AV) (σ : aM) (l0 : Option (Nat × Int)) (r : List AV)  : ev 5 5 [aQ l0, a1] (r) σ = ev 5 6 [aQ l0, a1] (aQ l0 :: r) σ := ev_go f_Bk_orderAt_5 rfl
theorem f_Bk_orderAt_6 : fetch 5 6 = some (.getfield 24) := by decide +kernel
theorem e_Bk_orderAt_6 (a0 a1 : AV) (σ : aM) (i : Int) (r : List AV)  : ev 5 6 [a0, a1] (aR 6 i :: r) σ = ev 5 9 [a0, a1] (aI (gI σ 6 i 2) :: r) σ := ev_go f_Bk_orderAt_6 rfl
theorem f_Bk_orderAt_9 : fetch 5 9 = some (.if_icmp .ge 12) := by decide +kernel
theorem e_Bk_orderAt_9 (a0 a1 : AV) (σ : aM) (x z : Int) (r : List AV) : ev 5 9 [a0, a1] (aI z :: aI x :: r) σ = if z ≤ x then ev 5 21 [a0, a1] r σ else ev 5 12 [a0, a1] r σ := ev_br f_Bk_orderAt_9 rfl bc_ge
theorem f_Bk_orderAt_12 : fetch 5 12 = some (.aload_n 0) := by decide +kernel
theorem e_Bk_orderAt_12 (a1 : AV) (σ : aM) (l0 : Option (Nat × Int)) (r : List AV)  : ev 5 12 [aQ l0, a1] (r) σ = ev 5 13 [aQ l0, a1] (aQ l0 :: r) σ := ev_go f_Bk_orderAt_12 rfl
theorem f_Bk_orderAt_13 : fetch 5 13 = some (.getfield 11) := by decide +kernel
theorem e_Bk_orderAt_13 (a0 a1 : AV) (σ : aM) (i : Int) (r : List AV)  : ev 5 13 [a0, a1] (aR 6 i :: r) σ = ev 5 16 [a0, a1] (aR 7 i :: r) σ := ev_go f_Bk_orderAt_13 rfl
theorem f_Bk_orderAt_16 : fetch 5 16 = some (.iload_n 1) := by decide +kernel
theorem e_Bk_orderAt_16 (a0 : AV) (σ : aM) (l1 : Int) (r : List AV)  : ev 5 16 [a0, aI l1] (r) σ = ev 5 17 [a0, aI l1] (aI l1 :: r) σ := ev_go f_Bk_orderAt_16 rfl
theorem f_Bk_orderAt_17 : fetch 5 17 = some (.aaload) := by decide +kernel
theorem e_Bk_orderAt_17 (a0 a1 : AV) (σ : aM) (x : Int) (i : Int) (r : List AV) (h : 0 ≤ x ∧ x < 60) : ev 5 17 [a0, a1] (aI x :: aR 7 i :: r) σ = ev 5 18 [a0, a1] (aR 8 (60 * i + x) :: r) σ := ev_cd f_Bk_orderAt_17 rfl ⟨by decide, by decide, h.1, by rw [aLen_n (by decide) rfl]; exact h.2⟩
theorem f_Bk_orderAt_18 : fetch 5 18 = some (.goto 4) := by decide +kernel
theorem e_Bk_orderAt_18 (a0 a1 : AV) (σ : aM) (r : List AV)  : ev 5 18 [a0, a1] (r) σ = ev 5 22 [a0, a1] (r) σ := ev_go f_Bk_orderAt_18 rfl
theorem f_Bk_orderAt_21 : fetch 5 21 = some (.aconst_null) := by decide +kernel
theorem e_Bk_orderAt_21 (a0 a1 : AV) (σ : aM) (r : List AV)  : ev 5 21 [a0, a1] (r) σ = ev 5 22 [a0, a1] (aN :: r) σ := ev_go f_Bk_orderAt_21 rfl
theorem f_Bk_orderAt_22 : fetch 5 22 = some (.areturn) := by decide +kernel
theorem e_Bk_orderAt_22 (a0 a1 : AV) (σ : aM) (x : Option (Nat × Int)) : ev 5 22 [a0, a1] [aQ x] σ = some ((some (aQ x)), σ) := ev_ret f_Bk_orderAt_22 rfl
theorem f_Bk_giveTime_0 : fetch 6 0 = some (.aload_n 1) := by decide +kernel
theorem e_Bk_giveTime_0 (a0 : AV) (σ : aM) (l1 : Option (Nat × Int)) (r : List AV)  : ev 6 0 [a0, aQ l1] (r) σ = ev 6 1 [a0, aQ l1] (aQ l1 :: r) σ := ev_go f_Bk_giveTime_0 rfl
theorem f_Bk_giveTime_1 : fetch 6 1 = some (.aload_n 0) := by decide +kernel
theorem e_Bk_giveTime_1 (a1 : AV) (σ : aM) (l0 : Option (Nat × Int)) (r : List AV)  : ev 6 1 [aQ l0, a1] (r) σ = ev 6 2 [aQ l0, a1] (aQ l0 :: r) σ := ev_go f_Bk_giveTime_1 rfl
theorem f_Bk_giveTime_2 : fetch 6 2 = some (.getfield 37) := by decide +kernel
theorem e_Bk_giveTime_2 (a0 a1 : AV) (σ : aM) (i : Int) (r : List AV)  : ev 6 2 [a0, a1] (aR 6 i :: r) σ = ev 6 5 [a0, a1] (aI (gI σ 6 i 6) :: r) σ := ev_go f_Bk_giveTime_2 rfl
theorem f_Bk_giveTime_5 : fetch 6 5 = some (.putfield 50) := by decide +kernel
theorem e_Bk_giveTime_5 (a0 a1 : AV) (σ : aM) (i : Int) (x : Int) (r : List AV)  : ev 6 5 [a0, a1] (aI x :: aR 8 i :: r) σ = ev 6 8 [a0, a1] (r) (uI σ 8 i 10 x) := ev_go f_Bk_giveTime_5 rfl
theorem f_Bk_giveTime_8 : fetch 6 8 = some (.aload_n 0) := by decide +kernel
theorem e_Bk_giveTime_8 (a1 : AV) (σ : aM) (l0 : Option (Nat × Int)) (r : List AV)  : ev 6 8 [aQ l0, a1] (r) σ = ev 6 9 [aQ l0, a1] (aQ l0 :: r) σ := ev_go f_Bk_giveTime_8 rfl
theorem f_Bk_giveTime_9 : fetch 6 9 = some (.dup) := by decide +kernel
theorem e_Bk_giveTime_9 (a0 a1 : AV) (σ : aM) (x : Option (Nat × Int)) (r : List AV)  : ev 6 9 [a0, a1] (aQ x :: r) σ = ev 6 10 [a0, a1] (aQ x :: aQ x :: r) σ := ev_go f_Bk_giveTime_9 rfl
theorem f_Bk_giveTime_10 : fetch 6 10 = some (.getfield 37) := by decide +kernel
theorem e_Bk_giveTime_10 (a0 a1 : AV) (σ : aM) (i : Int) (r : List AV)  : ev 6 10 [a0, a1] (aR 6 i :: r) σ = ev 6 13 [a0, a1] (aI (gI σ 6 i 6) :: r) σ := ev_go f_Bk_giveTime_10 rfl
theorem f_Bk_giveTime_13 : fetch 6 13 = some (.iconst 1) := by decide +kernel
theorem e_Bk_giveTime_13 (a0 a1 : AV) (σ : aM) (r : List AV)  : ev 6 13 [a0, a1] (r) σ = ev 6 14 [a0, a1] (aI 1 :: r) σ := ev_go f_Bk_giveTime_13 rfl
theorem f_Bk_giveTime_14 : fetch 6 14 = some (.iadd) := by decide +kernel
theorem e_Bk_giveTime_14 (a0 a1 : AV) (σ : aM) (x z : Int) (r : List AV)  : ev 6 14 [a0, a1] (aI z :: aI x :: r) σ = ev 6 15 [a0, a1] (aI (wr (x + z)) :: r) σ := ev_go f_Bk_giveTime_14 rfl
theorem f_Bk_giveTime_15 : fetch 6 15 = some (.putfield 37) := by decide +kernel
theorem e_Bk_giveTime_15 (a0 a1 : AV) (σ : aM) (i : Int) (x : Int) (r : List AV)  : ev 6 15 [a0, a1] (aI x :: aR 6 i :: r) σ = ev 6 18 [a0, a1] (r) (uI σ 6 i 6 x) := ev_go f_Bk_giveTime_15 rfl
theorem f_Bk_giveTime_18 : fetch 6 18 = some (.return_) := by decide +kernel
theorem e_Bk_giveTime_18 (a0 a1 : AV) (σ : aM)  : ev 6 18 [a0, a1] [] σ = some (none, σ) := ev_ret f_Bk_giveTime_18 rfl
theorem f_Bk_rest_0 : fetch 7 0 = some (.aload_n 1) := by decide +kernel
theorem e_Bk_rest_0 (a0 : AV) (σ : aM) (l1 : Option (Nat × Int)) (r : List AV)  : ev 7 0 [a0, aQ l1] (r) σ = ev 7 1 [a0, aQ l1] (aQ l1 :: r) σ := ev_go f_Bk_rest_0 rfl
theorem f_Bk_rest_1 : fetch 7 1 = some (.iconst 1) := by decide +kernel
theorem e_Bk_rest_1 (a0 a1 : AV) (σ : aM) (r : List AV)  : ev 7 1 [a0, a1] (r) σ = ev 7 2 [a0, a1] (aI 1 :: r) σ := ev_go f_Bk_rest_1 rfl
theorem f_Bk_rest_2 : fetch 7 2 = some (.putfield 53) := by decide +kernel
theorem e_Bk_rest_2 (a0 a1 : AV) (σ : aM) (i : Int) (x : Int) (r : List AV)  : ev 7 2 [a0, a1] (aI x :: aR 8 i :: r) σ = ev 7 5 [a0, a1] (r) (uI σ 8 i 5 x) := ev_go f_Bk_rest_2 rfl
theorem f_Bk_rest_5 : fetch 7 5 = some (.aload_n 1) := by decide +kernel
theorem e_Bk_rest_5 (a0 : AV) (σ : aM) (l1 : Option (Nat × Int)) (r : List AV)  : ev 7 5 [a0, aQ l1] (r) σ = ev 7 6 [a0, aQ l1] (aQ l1 :: r) σ := ev_go f_Bk_rest_5 rfl
theorem f_Bk_rest_6 : fetch 7 6 = some (.invokevirtual 56) := by decide +kernel
theorem e_Bk_rest_6 (a0 a1 : AV) (σ : aM) (s0 : Int) : ev 7 6 [a0, a1] [aR 8 s0] σ = evK 7 9 [a0, a1] [] (ev 44 0 [aR 8 s0] [] σ) := ev_call f_Bk_rest_6 rfl rfl
theorem f_Bk_rest_9 : fetch 7 9 = some (.aload_n 0) := by decide +kernel
theorem e_Bk_rest_9 (a1 : AV) (σ : aM) (l0 : Option (Nat × Int)) (r : List AV)  : ev 7 9 [aQ l0, a1] (r) σ = ev 7 10 [aQ l0, a1] (aQ l0 :: r) σ := ev_go f_Bk_rest_9 rfl
theorem f_Bk_rest_10 : fetch 7 10 = some (.aload_n 1) := by decide +kernel
theorem e_Bk_rest_10 (a0 : AV) (σ : aM) (l1 : Option (Nat × Int)) (r : List AV)  : ev 7 10 [a0, aQ l1] (r) σ = ev 7 11 [a0, aQ l1] (aQ l1 :: r) σ := ev_go f_Bk_rest_10 rfl
theorem f_Bk_rest_11 : fetch 7 11 = some (.invokevirtual 59) := by decide +kernel
theorem e_Bk_rest_11 (a0 a1 : AV) (σ : aM) (s0 : Int) (s1 : Option (Nat × Int)) : ev 7 11 [a0, a1] [aQ s1, aR 6 s0] σ = evK 7 14 [a0, a1] [] (ev 6 0 [aR 6 s0, aQ s1] [] σ) := ev_call f_Bk_rest_11 rfl rfl
theorem f_Bk_rest_14 : fetch 7 14 = some (.return_) := by decide +kernel
theorem e_Bk_rest_14 (a0 a1 : AV) (σ : aM)  : ev 7 14 [a0, a1] [] σ = some (none, σ) := ev_ret f_Bk_rest_14 rfl
theorem f_Bk_firstOn_0 : fetch 8 0 = some (.aconst_null) := by decide +kernel
theorem e_Bk_firstOn_0 (a0 a1 a2 a3 a4 : AV) (σ : aM) (r : List AV)  : ev 8 0 [a0, a1, a2, a3, a4] (r) σ = ev 8 1 [a0, a1, a2, a3, a4] (aN :: r) σ := ev_go f_Bk_firstOn_0 rfl
theorem f_Bk_firstOn_1 : fetch 8 1 = some (.astore_n 2) := by decide +kernel
theorem e_Bk_firstOn_1 (a0 a2 a3 a4 : AV) (σ : aM) (q : Option (Nat × Int)) (l1 : Int) (r : List AV)  : ev 8 1 [a0, aI l1, a2, a3, a4] (aQ q :: r) σ = ev 8 2 [a0, aI l1, aQ q, a3, a4] (r) σ := ev_go f_Bk_firstOn_1 rfl
theorem f_Bk_firstOn_2 : fetch 8 2 = some (.iconst 0) := by decide +kernel
theorem e_Bk_firstOn_2 (a0 a1 a2 a3 a4 : AV) (σ : aM) (r : List AV)  : ev 8 2 [a0, a1, a2, a3, a4] (r) σ = ev 8 3 [a0, a1, a2, a3, a4] (aI 0 :: r) σ := ev_go f_Bk_firstOn_2 rfl
theorem f_Bk_firstOn_3 : fetch 8 3 = some (.istore_n 3) := by decide +kernel
theorem e_Bk_firstOn_3 (a0 a1 a3 a4 : AV) (σ : aM) (x : Int) (l2 : Option (Nat × Int)) (r : List AV)  : ev 8 3 [a0, a1, aQ l2, a3, a4] (aI x :: r) σ = ev 8 4 [a0, a1, aQ l2, aI x, a4] (r) σ := ev_go f_Bk_firstOn_3 rfl
theorem f_Bk_firstOn_4 : fetch 8 4 = some (.iload_n 3) := by decide +kernel
theorem e_Bk_firstOn_4 (a0 a1 a2 a4 : AV) (σ : aM) (l3 : Int) (r : List AV)  : ev 8 4 [a0, a1, a2, aI l3, a4] (r) σ = ev 8 5 [a0, a1, a2, aI l3, a4] (aI l3 :: r) σ := ev_go f_Bk_firstOn_4 rfl
theorem f_Bk_firstOn_5 : fetch 8 5 = some (.aload_n 0) := by decide +kernel
theorem e_Bk_firstOn_5 (a1 a2 a3 a4 : AV) (σ : aM) (l0 : Option (Nat × Int)) (r : List AV)  : ev 8 5 [aQ l0, a1, a2, a3, a4] (r) σ = ev 8 6 [aQ l0, a1, a2, a3, a4] (aQ l0 :: r) σ := ev_go f_Bk_firstOn_5 rfl
theorem f_Bk_firstOn_6 : fetch 8 6 = some (.getfield 24) := by decide +kernel
theorem e_Bk_firstOn_6 (a0 a1 a2 a3 a4 : AV) (σ : aM) (i : Int) (r : List AV)  : ev 8 6 [a0, a1, a2, a3, a4] (aR 6 i :: r) σ = ev 8 9 [a0, a1, a2, a3, a4] (aI (gI σ 6 i 2) :: r) σ := ev_go f_Bk_firstOn_6 rfl
theorem f_Bk_firstOn_9 : fetch 8 9 = some (.if_icmp .ge 60) := by decide +kernel
theorem e_Bk_firstOn_9 (a0 a1 a2 a3 a4 : AV) (σ : aM) (x z : Int) (r : List AV) : ev 8 9 [a0, a1, a2, a3, a4] (aI z :: aI x :: r) σ = if z ≤ x then ev 8 69 [a0, a1, a2, a3, a4] r σ else ev 8 12 [a0, a1, a2, a3, a4] r σ := ev_br f_Bk_firstOn_9 rfl bc_ge
theorem f_Bk_firstOn_12 : fetch 8 12 = some (.aload_n 0) := by decide +kernel
theorem e_Bk_firstOn_12 (a1 a2 a3 a4 : AV) (σ : aM) (l0 : Option (Nat × Int)) (r : List AV)  : ev 8 12 [aQ l0, a1, a2, a3, a4] (r) σ = ev 8 13 [aQ l0, a1, a2, a3, a4] (aQ l0 :: r) σ := ev_go f_Bk_firstOn_12 rfl
theorem f_Bk_firstOn_13 : fetch 8 13 = some (.getfield 11) := by decide +kernel
theorem e_Bk_firstOn_13 (a0 a1 a2 a3 a4 : AV) (σ : aM) (i : Int) (r : List AV)  : ev 8 13 [a0, a1, a2, a3, a4] (aR 6 i :: r) σ = ev 8 16 [a0, a1, a2, a3, a4] (aR 7 i :: r) σ := ev_go f_Bk_firstOn_13 rfl
theorem f_Bk_firstOn_16 : fetch 8 16 = some (.iload_n 3) := by decide +kernel
theorem e_Bk_firstOn_16 (a0 a1 a2 a4 : AV) (σ : aM) (l3 : Int) (r : List AV)  : ev 8 16 [a0, a1, a2, aI l3, a4] (r) σ = ev 8 17 [a0, a1, a2, aI l3, a4] (aI l3 :: r) σ := ev_go f_Bk_firstOn_16 rfl
theorem f_Bk_firstOn_17 : fetch 8 17 = some (.aaload) := by decide +kernel
theorem e_Bk_firstOn_17 (a0 a1 a2 a3 a4 : AV) (σ : aM) (x : Int) (i : Int) (r : List AV) (h : 0 ≤ x ∧ x < 60) : ev 8 17 [a0, a1, a2, a3, a4] (aI x :: aR 7 i :: r) σ = ev 8 18 [a0, a1, a2, a3, a4] (aR 8 (60 * i + x) :: r) σ := ev_cd f_Bk_firstOn_17 rfl ⟨by decide, by decide, h.1, by rw [aLen_n (by decide) rfl]; exact h.2⟩
theorem f_Bk_firstOn_18 : fetch 8 18 = some (.astore 4) := by decide +kernel
theorem e_Bk_firstOn_18 (a0 a1 a2 a4 : AV) (σ : aM) (q : Option (Nat × Int)) (l3 : Int) (r : List AV)  : ev 8 18 [a0, a1, a2, aI l3, a4] (aQ q :: r) σ = ev 8 20 [a0, a1, a2, aI l3, aQ q] (r) σ := ev_go f_Bk_firstOn_18 rfl
theorem f_Bk_firstOn_20 : fetch 8 20 = some (.aload 4) := by decide +kernel
theorem e_Bk_firstOn_20 (a0 a1 a2 a3 : AV) (σ : aM) (l4 : Option (Nat × Int)) (r : List AV)  : ev 8 20 [a0, a1, a2, a3, aQ l4] (r) σ = ev 8 22 [a0, a1, a2, a3, aQ l4] (aQ l4 :: r) σ := ev_go f_Bk_firstOn_20 rfl
theorem f_Bk_firstOn_22 : fetch 8 22 = some (.iload_n 1) := by decide +kernel
theorem e_Bk_firstOn_22 (a0 a2 a3 a4 : AV) (σ : aM) (l1 : Int) (r : List AV)  : ev 8 22 [a0, aI l1, a2, a3, a4] (r) σ = ev 8 23 [a0, aI l1, a2, a3, a4] (aI l1 :: r) σ := ev_go f_Bk_firstOn_22 rfl
theorem f_Bk_firstOn_23 : fetch 8 23 = some (.invokevirtual 62) := by decide +kernel
theorem e_Bk_firstOn_23 (a0 a1 a2 a3 a4 : AV) (σ : aM) (s0 : Int) (s1 : Int) : ev 8 23 [a0, a1, a2, a3, a4] [aI s1, aR 8 s0] σ = evK 8 26 [a0, a1, a2, a3, a4] [] (ev 38 0 [aR 8 s0, aI s1] [] σ) := ev_call f_Bk_firstOn_23 rfl rfl
theorem f_Bk_firstOn_26 : fetch 8 26 = some (.ifCond .eq 37) := by decide +kernel
theorem e_Bk_firstOn_26 (a0 a1 a2 a3 a4 : AV) (σ : aM) (x : Int) (r : List AV) : ev 8 26 [a0, a1, a2, a3, a4] (aI x :: r) σ = if x = 0 then ev 8 63 [a0, a1, a2, a3, a4] r σ else ev 8 29 [a0, a1, a2, a3, a4] r σ := ev_br f_Bk_firstOn_26 rfl bc_eq
theorem f_Bk_firstOn_29 : fetch 8 29 = some (.aload 4) := by decide +kernel
theorem e_Bk_firstOn_29 (a0 a1 a2 a3 : AV) (σ : aM) (l4 : Option (Nat × Int)) (r : List AV)  : ev 8 29 [a0, a1, a2, a3, aQ l4] (r) σ = ev 8 31 [a0, a1, a2, a3, aQ l4] (aQ l4 :: r) σ := ev_go f_Bk_firstOn_29 rfl
theorem f_Bk_firstOn_31 : fetch 8 31 = some (.getfield 66) := by decide +kernel
theorem e_Bk_firstOn_31 (a0 a1 a2 a3 a4 : AV) (σ : aM) (i : Int) (r : List AV)  : ev 8 31 [a0, a1, a2, a3, a4] (aR 8 i :: r) σ = ev 8 34 [a0, a1, a2, a3, a4] (aI (gI σ 8 i 1) :: r) σ := ev_go f_Bk_firstOn_31 rfl
theorem f_Bk_firstOn_34 : fetch 8 34 = some (.iconst 3) := by decide +kernel
theorem e_Bk_firstOn_34 (a0 a1 a2 a3 a4 : AV) (σ : aM) (r : List AV)  : ev 8 34 [a0, a1, a2, a3, a4] (r) σ = ev 8 35 [a0, a1, a2, a3, a4] (aI 3 :: r) σ := ev_go f_Bk_firstOn_34 rfl
theorem f_Bk_firstOn_35 : fetch 8 35 = some (.if_icmp .eq 28) := by decide +kernel
theorem e_Bk_firstOn_35 (a0 a1 a2 a3 a4 : AV) (σ : aM) (x z : Int) (r : List AV) : ev 8 35 [a0, a1, a2, a3, a4] (aI z :: aI x :: r) σ = if x = z then ev 8 63 [a0, a1, a2, a3, a4] r σ else ev 8 38 [a0, a1, a2, a3, a4] r σ := ev_br f_Bk_firstOn_35 rfl bc_eq
theorem f_Bk_firstOn_38 : fetch 8 38 = some (.aload_n 2) := by decide +kernel
theorem e_Bk_firstOn_38 (a0 a1 a3 a4 : AV) (σ : aM) (l2 : Option (Nat × Int)) (r : List AV)  : ev 8 38 [a0, a1, aQ l2, a3, a4] (r) σ = ev 8 39 [a0, a1, aQ l2, a3, a4] (aQ l2 :: r) σ := ev_go f_Bk_firstOn_38 rfl
theorem f_Bk_firstOn_39 : fetch 8 39 = some (.ifnull 21) := by decide +kernel
theorem e_Bk_firstOn_39 (a0 a1 a2 a3 a4 : AV) (σ : aM) (q : Option (Nat × Int)) (r : List AV) : ev 8 39 [a0, a1, a2, a3, a4] (aQ q :: r) σ = if q = none then ev 8 60 [a0, a1, a2, a3, a4] r σ else ev 8 42 [a0, a1, a2, a3, a4] r σ := ev_br f_Bk_firstOn_39 rfl bc_non
theorem f_Bk_firstOn_42 : fetch 8 42 = some (.aload 4) := by decide +kernel
theorem e_Bk_firstOn_42 (a0 a1 a2 a3 : AV) (σ : aM) (l4 : Option (Nat × Int)) (r : List AV)  : ev 8 42 [a0, a1, a2, a3, aQ l4] (r) σ = ev 8 44 [a0, a1, a2, a3, aQ l4] (aQ l4 :: r) σ := ev_go f_Bk_firstOn_42 rfl
theorem f_Bk_firstOn_44 : fetch 8 44 = some (.aload_n 2) := by decide +kernel
theorem e_Bk_firstOn_44 (a0 a1 a3 a4 : AV) (σ : aM) (l2 : Option (Nat × Int)) (r : List AV)  : ev 8 44 [a0, a1, aQ l2, a3, a4] (r) σ = ev 8 45 [a0, a1, aQ l2, a3, a4] (aQ l2 :: r) σ := ev_go f_Bk_firstOn_44 rfl
theorem f_Bk_firstOn_45 : fetch 8 45 = some (.aload 4) := by decide +kernel
theorem e_Bk_firstOn_45 (a0 a1 a2 a3 : AV) (σ : aM) (l4 : Option (Nat × Int)) (r : List AV)  : ev 8 45 [a0, a1, a2, a3, aQ l4] (r) σ = ev 8 47 [a0, a1, a2, a3, aQ l4] (aQ l4 :: r) σ := ev_go f_Bk_firstOn_45 rfl
theorem f_Bk_firstOn_47 : fetch 8 47 = some (.getfield 69) := by decide +kernel
theorem e_Bk_firstOn_47 (a0 a1 a2 a3 a4 : AV) (σ : aM) (i : Int) (r : List AV)  : ev 8 47 [a0, a1, a2, a3, a4] (aR 8 i :: r) σ = ev 8 50 [a0, a1, a2, a3, a4] (aI (gI σ 8 i 7) :: r) σ := ev_go f_Bk_firstOn_47 rfl
theorem f_Bk_firstOn_50 : fetch 8 50 = some (.aload_n 2) := by decide +kernel
theorem e_Bk_firstOn_50 (a0 a1 a3 a4 : AV) (σ : aM) (l2 : Option (Nat × Int)) (r : List AV)  : ev 8 50 [a0, a1, aQ l2, a3, a4] (r) σ = ev 8 51 [a0, a1, aQ l2, a3, a4] (aQ l2 :: r) σ := ev_go f_Bk_firstOn_50 rfl
theorem f_Bk_firstOn_51 : fetch 8 51 = some (.getfield 69) := by decide +kernel
theorem e_Bk_firstOn_51 (a0 a1 a2 a3 a4 : AV) (σ : aM) (i : Int) (r : List AV)  : ev 8 51 [a0, a1, a2, a3, a4] (aR 8 i :: r) σ = ev 8 54 [a0, a1, a2, a3, a4] (aI (gI σ 8 i 7) :: r) σ := ev_go f_Bk_firstOn_51 rfl
theorem f_Bk_firstOn_54 : fetch 8 54 = some (.invokevirtual 72) := by decide +kernel
theorem e_Bk_firstOn_54 (a0 a1 a2 a3 a4 : AV) (σ : aM) (s0 : Int) (s1 : Option (Nat × Int)) (s2 : Int) (s3 : Int) : ev 8 54 [a0, a1, a2, a3, a4] [aI s3, aI s2, aQ s1, aR 8 s0] σ = evK 8 57 [a0, a1, a2, a3, a4] [] (ev 41 0 [aR 8 s0, aQ s1, aI s2, aI s3] [] σ) := ev_call f_Bk_firstOn_54 rfl rfl
theorem f_Bk_firstOn_57 : fetch 8 57 = some (.ifCond .eq 6) := by decide +kernel
theorem e_Bk_firstOn_57 (a0 a1 a2 a3 a4 : AV) (σ : aM) (x : Int) (r : List AV) : ev 8 57 [a0, a1, a2, a3, a4] (aI x :: r) σ = if x = 0 then ev 8 63 [a0, a1, a2, a3, a4] r σ else ev 8 60 [a0, a1, a2, a3, a4] r σ := ev_br f_Bk_firstOn_57 rfl bc_eq
theorem f_Bk_firstOn_60 : fetch 8 60 = some (.aload 4) := by decide +kernel
theorem e_Bk_firstOn_60 (a0 a1 a2 a3 : AV) (σ : aM) (l4 : Option (Nat × Int)) (r : List AV)  : ev 8 60 [a0, a1, a2, a3, aQ l4] (r) σ = ev 8 62 [a0, a1, a2, a3, aQ l4] (aQ l4 :: r) σ := ev_go f_Bk_firstOn_60 rfl
theorem f_Bk_firstOn_62 : fetch 8 62 = some (.astore_n 2) := by decide +kernel
theorem e_Bk_firstOn_62 (a0 a2 a3 a4 : AV) (σ : aM) (q : Option (Nat × Int)) (l1 : Int) (r : List AV)  : ev 8 62 [a0, aI l1, a2, a3, a4] (aQ q :: r) σ = ev 8 63 [a0, aI l1, aQ q, a3, a4] (r) σ := ev_go f_Bk_firstOn_62 rfl
theorem f_Bk_firstOn_63 : fetch 8 63 = some (.iinc 3 1) := by decide +kernel
theorem e_Bk_firstOn_63 (a0 a1 a4 : AV) (σ : aM) (l3 : Int) (l2 : Option (Nat × Int)) (r : List AV)  : ev 8 63 [a0, a1, aQ l2, aI l3, a4] (r) σ = ev 8 66 [a0, a1, aQ l2, aI (wr (l3 + 1)), a4] (r) σ := ev_go f_Bk_firstOn_63 rfl
theorem f_Bk_firstOn_66 : fetch 8 66 = some (.goto (-62)) := by decide +kernel
theorem e_Bk_firstOn_66 (a0 a1 a2 a3 a4 : AV) (σ : aM) (r : List AV)  : ev 8 66 [a0, a1, a2, a3, a4] (r) σ = ev 8 4 [a0, a1, a2, a3, a4] (r) σ := ev_go f_Bk_firstOn_66 rfl
theorem f_Bk_firstOn_69 : fetch 8 69 = some (.aload_n 2) := by decide +kernel
theorem e_Bk_firstOn_69 (a0 a1 a3 a4 : AV) (σ : aM) (l2 : Option (Nat × Int)) (r : List AV)  : ev 8 69 [a0, a1, aQ l2, a3, a4] (r) σ = ev 8 70 [a0, a1, aQ l2, a3, a4] (aQ l2 :: r) σ := ev_go f_Bk_firstOn_69 rfl
theorem f_Bk_firstOn_70 : fetch 8 70 = some (.areturn) := by decide +kernel
theorem e_Bk_firstOn_70 (a0 a1 a2 a3 a4 : AV) (σ : aM) (x : Option (Nat × Int)) : ev 8 70 [a0, a1, a2, a3, a4] [aQ x] σ = some ((some (aQ x)), σ) := ev_ret f_Bk_firstOn_70 rfl
theorem f_Bk_bestPrice_0 : fetch 9 0 = some (.aload_n 0) := by decide +kernel
theorem e_Bk_bestPrice_0 (a1 a2 : AV) (σ : aM) (l0 : Option (Nat × Int)) (r : List AV)  : ev 9 0 [aQ l0, a1, a2] (r) σ = ev 9 1 [aQ l0, a1, a2] (aQ l0 :: r) σ := ev_go f_Bk_bestPrice_0 rfl
theorem f_Bk_bestPrice_1 : fetch 9 1 = some (.iload_n 1) := by decide +kernel
theorem e_Bk_bestPrice_1 (a0 a2 : AV) (σ : aM) (l1 : Int) (r : List AV)  : ev 9 1 [a0, aI l1, a2] (r) σ = ev 9 2 [a0, aI l1, a2] (aI l1 :: r) σ := ev_go f_Bk_bestPrice_1 rfl
theorem f_Bk_bestPrice_2 : fetch 9 2 = some (.invokevirtual 76) := by decide +kernel
theorem e_Bk_bestPrice_2 (a0 a1 a2 : AV) (σ : aM) (s0 : Int) (s1 : Int) : ev 9 2 [a0, a1, a2] [aI s1, aR 6 s0] σ = evK 9 5 [a0, a1, a2] [] (ev 8 0 [aR 6 s0, aI s1, aU, aU, aU] [] σ) := ev_call f_Bk_bestPrice_2 rfl rfl
theorem f_Bk_bestPrice_5 : fetch 9 5 = some (.astore_n 2) := by decide +kernel
theorem e_Bk_bestPrice_5 (a0 a2 : AV) (σ : aM) (q : Option (Nat × Int)) (l1 : Int) (r : List AV)  : ev 9 5 [a0, aI l1, a2] (aQ q :: r) σ = ev 9 6 [a0, aI l1, aQ q] (r) σ := ev_go f_Bk_bestPrice_5 rfl
theorem f_Bk_bestPrice_6 : fetch 9 6 = some (.aload_n 2) := by decide +kernel
theorem e_Bk_bestPrice_6 (a0 a1 : AV) (σ : aM) (l2 : Option (Nat × Int)) (r : List AV)  : ev 9 6 [a0, a1, aQ l2] (r) σ = ev 9 7 [a0, a1, aQ l2] (aQ l2 :: r) σ := ev_go f_Bk_bestPrice_6 rfl
theorem f_Bk_bestPrice_7 : fetch 9 7 = some (.ifnonnull 7) := by decide +kernel
theorem e_Bk_bestPrice_7 (a0 a1 a2 : AV) (σ : aM) (q : Option (Nat × Int)) (r : List AV) : ev 9 7 [a0, a1, a2] (aQ q :: r) σ = if ¬ q = none then ev 9 14 [a0, a1, a2] r σ else ev 9 10 [a0, a1, a2] r σ := ev_br f_Bk_bestPrice_7 rfl bc_som
theorem f_Bk_bestPrice_10 : fetch 9 10 = some (.iconst 0) := by decide +kernel
theorem e_Bk_bestPrice_10 (a0 a1 a2 : AV) (σ : aM) (r : List AV)  : ev 9 10 [a0, a1, a2] (r) σ = ev 9 11 [a0, a1, a2] (aI 0 :: r) σ := ev_go f_Bk_bestPrice_10 rfl
theorem f_Bk_bestPrice_11 : fetch 9 11 = some (.goto 7) := by decide +kernel
theorem e_Bk_bestPrice_11 (a0 a1 a2 : AV) (σ : aM) (r : List AV)  : ev 9 11 [a0, a1, a2] (r) σ = ev 9 18 [a0, a1, a2] (r) σ := ev_go f_Bk_bestPrice_11 rfl
theorem f_Bk_bestPrice_14 : fetch 9 14 = some (.aload_n 2) := by decide +kernel
theorem e_Bk_bestPrice_14 (a0 a1 : AV) (σ : aM) (l2 : Option (Nat × Int)) (r : List AV)  : ev 9 14 [a0, a1, aQ l2] (r) σ = ev 9 15 [a0, a1, aQ l2] (aQ l2 :: r) σ := ev_go f_Bk_bestPrice_14 rfl
theorem f_Bk_bestPrice_15 : fetch 9 15 = some (.getfield 69) := by decide +kernel
theorem e_Bk_bestPrice_15 (a0 a1 a2 : AV) (σ : aM) (i : Int) (r : List AV)  : ev 9 15 [a0, a1, a2] (aR 8 i :: r) σ = ev 9 18 [a0, a1, a2] (aI (gI σ 8 i 7) :: r) σ := ev_go f_Bk_bestPrice_15 rfl
theorem f_Bk_bestPrice_18 : fetch 9 18 = some (.ireturn) := by decide +kernel
theorem e_Bk_bestPrice_18 (a0 a1 a2 : AV) (σ : aM) (x : Int) : ev 9 18 [a0, a1, a2] [aI x] σ = some ((some (aI x)), σ) := ev_ret f_Bk_bestPrice_18 rfl
theorem f_Bk_priceOf_0 : fetch 10 0 = some (.aload_n 1) := by decide +kernel
theorem e_Bk_priceOf_0 (a0 : AV) (σ : aM) (l1 : Option (Nat × Int)) (r : List AV)  : ev 10 0 [a0, aQ l1] (r) σ = ev 10 1 [a0, aQ l1] (aQ l1 :: r) σ := ev_go f_Bk_priceOf_0 rfl
theorem f_Bk_priceOf_1 : fetch 10 1 = some (.getfield 66) := by decide +kernel
theorem e_Bk_priceOf_1 (a0 a1 : AV) (σ : aM) (i : Int) (r : List AV)  : ev 10 1 [a0, a1] (aR 8 i :: r) σ = ev 10 4 [a0, a1] (aI (gI σ 8 i 1) :: r) σ := ev_go f_Bk_priceOf_1 rfl
theorem f_Bk_priceOf_4 : fetch 10 4 = some (.iconst 3) := by decide +kernel
theorem e_Bk_priceOf_4 (a0 a1 : AV) (σ : aM) (r : List AV)  : ev 10 4 [a0, a1] (r) σ = ev 10 5 [a0, a1] (aI 3 :: r) σ := ev_go f_Bk_priceOf_4 rfl
theorem f_Bk_priceOf_5 : fetch 10 5 = some (.if_icmp .ne 18) := by decide +kernel
theorem e_Bk_priceOf_5 (a0 a1 : AV) (σ : aM) (x z : Int) (r : List AV) : ev 10 5 [a0, a1] (aI z :: aI x :: r) σ = if ¬ x = z then ev 10 23 [a0, a1] r σ else ev 10 8 [a0, a1] r σ := ev_br f_Bk_priceOf_5 rfl bc_ne
theorem f_Bk_priceOf_8 : fetch 10 8 = some (.aload_n 1) := by decide +kernel
theorem e_Bk_priceOf_8 (a0 : AV) (σ : aM) (l1 : Option (Nat × Int)) (r : List AV)  : ev 10 8 [a0, aQ l1] (r) σ = ev 10 9 [a0, aQ l1] (aQ l1 :: r) σ := ev_go f_Bk_priceOf_8 rfl
theorem f_Bk_priceOf_9 : fetch 10 9 = some (.aload_n 0) := by decide +kernel
theorem e_Bk_priceOf_9 (a1 : AV) (σ : aM) (l0 : Option (Nat × Int)) (r : List AV)  : ev 10 9 [aQ l0, a1] (r) σ = ev 10 10 [aQ l0, a1] (aQ l0 :: r) σ := ev_go f_Bk_priceOf_9 rfl
theorem f_Bk_priceOf_10 : fetch 10 10 = some (.aload_n 1) := by decide +kernel
theorem e_Bk_priceOf_10 (a0 : AV) (σ : aM) (l1 : Option (Nat × Int)) (r : List AV)  : ev 10 10 [a0, aQ l1] (r) σ = ev 10 11 [a0, aQ l1] (aQ l1 :: r) σ := ev_go f_Bk_priceOf_10 rfl
theorem f_Bk_priceOf_11 : fetch 10 11 = some (.getfield 80) := by decide +kernel
theorem e_Bk_priceOf_11 (a0 a1 : AV) (σ : aM) (i : Int) (r : List AV)  : ev 10 11 [a0, a1] (aR 8 i :: r) σ = ev 10 14 [a0, a1] (aI (gI σ 8 i 3) :: r) σ := ev_go f_Bk_priceOf_11 rfl
theorem f_Bk_priceOf_14 : fetch 10 14 = some (.invokevirtual 83) := by decide +kernel
theorem e_Bk_priceOf_14 (a0 a1 : AV) (σ : aM) (s0 : Option (Nat × Int)) (s1 : Int) (s2 : Int) : ev 10 14 [a0, a1] [aI s2, aR 6 s1, aQ s0] σ = evK 10 17 [a0, a1] [aQ s0] (ev 9 0 [aR 6 s1, aI s2, aU] [] σ) := ev_call f_Bk_priceOf_14 rfl rfl
theorem f_Bk_priceOf_17 : fetch 10 17 = some (.invokevirtual 87) := by decide +kernel
theorem e_Bk_priceOf_17 (a0 a1 : AV) (σ : aM) (s0 : Int) (s1 : Int) : ev 10 17 [a0, a1] [aI s1, aR 8 s0] σ = evK 10 20 [a0, a1] [] (ev 40 0 [aR 8 s0, aI s1, aU] [] σ) := ev_call f_Bk_priceOf_17 rfl rfl
theorem f_Bk_priceOf_20 : fetch 10 20 = some (.goto 7) := by decide +kernel
theorem e_Bk_priceOf_20 (a0 a1 : AV) (σ : aM) (r : List AV)  : ev 10 20 [a0, a1] (r) σ = ev 10 27 [a0, a1] (r) σ := ev_go f_Bk_priceOf_20 rfl
theorem f_Bk_priceOf_23 : fetch 10 23 = some (.aload_n 1) := by decide +kernel
theorem e_Bk_priceOf_23 (a0 : AV) (σ : aM) (l1 : Option (Nat × Int)) (r : List AV)  : ev 10 23 [a0, aQ l1] (r) σ = ev 10 24 [a0, aQ l1] (aQ l1 :: r) σ := ev_go f_Bk_priceOf_23 rfl
theorem f_Bk_priceOf_24 : fetch 10 24 = some (.getfield 69) := by decide +kernel
theorem e_Bk_priceOf_24 (a0 a1 : AV) (σ : aM) (i : Int) (r : List AV)  : ev 10 24 [a0, a1] (aR 8 i :: r) σ = ev 10 27 [a0, a1] (aI (gI σ 8 i 7) :: r) σ := ev_go f_Bk_priceOf_24 rfl
theorem f_Bk_priceOf_27 : fetch 10 27 = some (.ireturn) := by decide +kernel
theorem e_Bk_priceOf_27 (a0 a1 : AV) (σ : aM) (x : Int) : ev 10 27 [a0, a1] [aI x] σ = some ((some (aI x)), σ) := ev_ret f_Bk_priceOf_27 rfl
theorem f_Bk_countIn_0 : fetch 11 0 = some (.iconst 0) := by decide +kernel
theorem e_Bk_countIn_0 (a0 a1 a2 a3 : AV) (σ : aM) (r : List AV)  : ev 11 0 [a0, a1, a2, a3] (r) σ = ev 11 1 [a0, a1, a2, a3] (aI 0 :: r) σ := ev_go f_Bk_countIn_0 rfl
theorem f_Bk_countIn_1 : fetch 11 1 = some (.istore_n 2) := by decide +kernel
theorem e_Bk_countIn_1 (a0 a2 a3 : AV) (σ : aM) (x : Int) (l1 : Int) (r : List AV)  : ev 11 1 [a0, aI l1, a2, a3] (aI x :: r) σ = ev 11 2 [a0, aI l1, aI x, a3] (r) σ := ev_go f_Bk_countIn_1 rfl
theorem f_Bk_countIn_2 : fetch 11 2 = some (.iconst 0) := by decide +kernel
theorem e_Bk_countIn_2 (a0 a1 a2 a3 : AV) (σ : aM) (r : List AV)  : ev 11 2 [a0, a1, a2, a3] (r) σ = ev 11 3 [a0, a1, a2, a3] (aI 0 :: r) σ := ev_go f_Bk_countIn_2 rfl
theorem f_Bk_countIn_3 : fetch 11 3 = some (.istore_n 3) := by decide +kernel
theorem e_Bk_countIn_3 (a0 a1 a3 : AV) (σ : aM) (x : Int) (l2 : Int) (r : List AV)  : ev 11 3 [a0, a1, aI l2, a3] (aI x :: r) σ = ev 11 4 [a0, a1, aI l2, aI x] (r) σ := ev_go f_Bk_countIn_3 rfl
theorem f_Bk_countIn_4 : fetch 11 4 = some (.iload_n 3) := by decide +kernel
theorem e_Bk_countIn_4 (a0 a1 a2 : AV) (σ : aM) (l3 : Int) (r : List AV)  : ev 11 4 [a0, a1, a2, aI l3] (r) σ = ev 11 5 [a0, a1, a2, aI l3] (aI l3 :: r) σ := ev_go f_Bk_countIn_4 rfl
theorem f_Bk_countIn_5 : fetch 11 5 = some (.aload_n 0) := by decide +kernel
theorem e_Bk_countIn_5 (a1 a2 a3 : AV) (σ : aM) (l0 : Option (Nat × Int)) (r : List AV)  : ev 11 5 [aQ l0, a1, a2, a3] (r) σ = ev 11 6 [aQ l0, a1, a2, a3] (aQ l0 :: r) σ := ev_go f_Bk_countIn_5 rfl
theorem f_Bk_countIn_6 : fetch 11 6 = some (.getfield 24) := by decide +kernel
theorem e_Bk_countIn_6 (a0 a1 a2 a3 : AV) (σ : aM) (i : Int) (r : List AV)  : ev 11 6 [a0, a1, a2, a3] (aR 6 i :: r) σ = ev 11 9 [a0, a1, a2, a3] (aI (gI σ 6 i 2) :: r) σ := ev_go f_Bk_countIn_6 rfl
theorem f_Bk_countIn_9 : fetch 11 9 = some (.if_icmp .ge 25) := by decide +kernel
theorem e_Bk_countIn_9 (a0 a1 a2 a3 : AV) (σ : aM) (x z : Int) (r : List AV) : ev 11 9 [a0, a1, a2, a3] (aI z :: aI x :: r) σ = if z ≤ x then ev 11 34 [a0, a1, a2, a3] r σ else ev 11 12 [a0, a1, a2, a3] r σ := ev_br f_Bk_countIn_9 rfl bc_ge
theorem f_Bk_countIn_12 : fetch 11 12 = some (.aload_n 0) := by decide +kernel
theorem e_Bk_countIn_12 (a1 a2 a3 : AV) (σ : aM) (l0 : Option (Nat × Int)) (r : List AV)  : ev 11 12 [aQ l0, a1, a2, a3] (r) σ = ev 11 13 [aQ l0, a1, a2, a3] (aQ l0 :: r) σ := ev_go f_Bk_countIn_12 rfl
theorem f_Bk_countIn_13 : fetch 11 13 = some (.getfield 11) := by decide +kernel
theorem e_Bk_countIn_13 (a0 a1 a2 a3 : AV) (σ : aM) (i : Int) (r : List AV)  : ev 11 13 [a0, a1, a2, a3] (aR 6 i :: r) σ = ev 11 16 [a0, a1, a2, a3] (aR 7 i :: r) σ := ev_go f_Bk_countIn_13 rfl
theorem f_Bk_countIn_16 : fetch 11 16 = some (.iload_n 3) := by decide +kernel
theorem e_Bk_countIn_16 (a0 a1 a2 : AV) (σ : aM) (l3 : Int) (r : List AV)  : ev 11 16 [a0, a1, a2, aI l3] (r) σ = ev 11 17 [a0, a1, a2, aI l3] (aI l3 :: r) σ := ev_go f_Bk_countIn_16 rfl
theorem f_Bk_countIn_17 : fetch 11 17 = some (.aaload) := by decide +kernel
theorem e_Bk_countIn_17 (a0 a1 a2 a3 : AV) (σ : aM) (x : Int) (i : Int) (r : List AV) (h : 0 ≤ x ∧ x < 60) : ev 11 17 [a0, a1, a2, a3] (aI x :: aR 7 i :: r) σ = ev 11 18 [a0, a1, a2, a3] (aR 8 (60 * i + x) :: r) σ := ev_cd f_Bk_countIn_17 rfl ⟨by decide, by decide, h.1, by rw [aLen_n (by decide) rfl]; exact h.2⟩
theorem f_Bk_countIn_18 : fetch 11 18 = some (.getfield 53) := by decide +kernel
theorem e_Bk_countIn_18 (a0 a1 a2 a3 : AV) (σ : aM) (i : Int) (r : List AV)  : ev 11 18 [a0, a1, a2, a3] (aR 8 i :: r) σ = ev 11 21 [a0, a1, a2, a3] (aI (gI σ 8 i 5) :: r) σ := ev_go f_Bk_countIn_18 rfl
theorem f_Bk_countIn_21 : fetch 11 21 = some (.iload_n 1) := by decide +kernel
theorem e_Bk_countIn_21 (a0 a2 a3 : AV) (σ : aM) (l1 : Int) (r : List AV)  : ev 11 21 [a0, aI l1, a2, a3] (r) σ = ev 11 22 [a0, aI l1, a2, a3] (aI l1 :: r) σ := ev_go f_Bk_countIn_21 rfl
theorem f_Bk_countIn_22 : fetch 11 22 = some (.if_icmp .ne 6) := by decide +kernel
theorem e_Bk_countIn_22 (a0 a1 a2 a3 : AV) (σ : aM) (x z : Int) (r : List AV) : ev 11 22 [a0, a1, a2, a3] (aI z :: aI x :: r) σ = if ¬ x = z then ev 11 28 [a0, a1, a2, a3] r σ else ev 11 25 [a0, a1, a2, a3] r σ := ev_br f_Bk_countIn_22 rfl bc_ne
theorem f_Bk_countIn_25 : fetch 11 25 = some (.iinc 2 1) := by decide +kernel
theorem e_Bk_countIn_25 (a0 a3 : AV) (σ : aM) (l2 : Int) (l1 : Int) (r : List AV)  : ev 11 25 [a0, aI l1, aI l2, a3] (r) σ = ev 11 28 [a0, aI l1, aI (wr (l2 + 1)), a3] (r) σ := ev_go f_Bk_countIn_25 rfl
theorem f_Bk_countIn_28 : fetch 11 28 = some (.iinc 3 1) := by decide +kernel
theorem e_Bk_countIn_28 (a0 a1 : AV) (σ : aM) (l3 : Int) (l2 : Int) (r : List AV)  : ev 11 28 [a0, a1, aI l2, aI l3] (r) σ = ev 11 31 [a0, a1, aI l2, aI (wr (l3 + 1))] (r) σ := ev_go f_Bk_countIn_28 rfl
theorem f_Bk_countIn_31 : fetch 11 31 = some (.goto (-27)) := by decide +kernel
theorem e_Bk_countIn_31 (a0 a1 a2 a3 : AV) (σ : aM) (r : List AV)  : ev 11 31 [a0, a1, a2, a3] (r) σ = ev 11 4 [a0, a1, a2, a3] (r) σ := ev_go f_Bk_countIn_31 rfl
theorem f_Bk_countIn_34 : fetch 11 34 = some (.iload_n 2) := by decide +kernel
theorem e_Bk_countIn_34 (a0 a1 a3 : AV) (σ : aM) (l2 : Int) (r : List AV)  : ev 11 34 [a0, a1, aI l2, a3] (r) σ = ev 11 35 [a0, a1, aI l2, a3] (aI l2 :: r) σ := ev_go f_Bk_countIn_34 rfl
theorem f_Bk_countIn_35 : fetch 11 35 = some (.ireturn) := by decide +kernel
theorem e_Bk_countIn_35 (a0 a1 a2 a3 : AV) (σ : aM) (x : Int) : ev 11 35 [a0, a1, a2, a3] [aI x] σ = some ((some (aI x)), σ) := ev_ret f_Bk_countIn_35 rfl
theorem f_Bk_drawBelow_0 : fetch 12 0 = some (.aload_n 0) := by decide +kernel
theorem e_Bk_drawBelow_0 (a1 : AV) (σ : aM) (l0 : Option (Nat × Int)) (r : List AV)  : ev 12 0 [aQ l0, a1] (r) σ = ev 12 1 [aQ l0, a1] (aQ l0 :: r) σ := ev_go f_Bk_drawBelow_0 rfl
theorem f_Bk_drawBelow_1 : fetch 12 1 = some (.aload_n 0) := by decide +kernel
theorem e_Bk_drawBelow_1 (a1 : AV) (σ : aM) (l0 : Option (Nat × Int)) (r : List AV)  : ev 12 1 [aQ l0, a1] (r) σ = ev 12 2 [aQ l0, a1] (aQ l0 :: r) σ := ev_go f_Bk_drawBelow_1 rfl
theorem f_Bk_drawBelow_2 : fetch 12 2 = some (.getfield 34) := by decide +kernel
theorem e_Bk_drawBelow_2 (a0 a1 : AV) (σ : aM) (i : Int) (r : List AV)  : ev 12 2 [a0, a1] (aR 6 i :: r) σ = ev 12 5 [a0, a1] (aI (gI σ 6 i 5) :: r) σ := ev_go f_Bk_drawBelow_2 rfl
theorem f_Bk_drawBelow_5 : fetch 12 5 = some (.ldc 90) := by decide +kernel
theorem e_Bk_drawBelow_5 (a0 a1 : AV) (σ : aM) (r : List AV)  : ev 12 5 [a0, a1] (r) σ = ev 12 7 [a0, a1] (aI 1103515245 :: r) σ := ev_go f_Bk_drawBelow_5 rfl
theorem f_Bk_drawBelow_7 : fetch 12 7 = some (.imul) := by decide +kernel
theorem e_Bk_drawBelow_7 (a0 a1 : AV) (σ : aM) (x z : Int) (r : List AV)  : ev 12 7 [a0, a1] (aI z :: aI x :: r) σ = ev 12 8 [a0, a1] (aI (wr (x * z)) :: r) σ := ev_go f_Bk_drawBelow_7 rfl
theorem f_Bk_drawBelow_8 : fetch 12 8 = some (.sipush 12345) := by decide +kernel
theorem e_Bk_drawBelow_8 (a0 a1 : AV) (σ : aM) (r : List AV)  : ev 12 8 [a0, a1] (r) σ = ev 12 11 [a0, a1] (aI 12345 :: r) σ := ev_go f_Bk_drawBelow_8 rfl
theorem f_Bk_drawBelow_11 : fetch 12 11 = some (.iadd) := by decide +kernel
theorem e_Bk_drawBelow_11 (a0 a1 : AV) (σ : aM) (x z : Int) (r : List AV)  : ev 12 11 [a0, a1] (aI z :: aI x :: r) σ = ev 12 12 [a0, a1] (aI (wr (x + z)) :: r) σ := ev_go f_Bk_drawBelow_11 rfl
theorem f_Bk_drawBelow_12 : fetch 12 12 = some (.putfield 34) := by decide +kernel
theorem e_Bk_drawBelow_12 (a0 a1 : AV) (σ : aM) (i : Int) (x : Int) (r : List AV)  : ev 12 12 [a0, a1] (aI x :: aR 6 i :: r) σ = ev 12 15 [a0, a1] (r) (uI σ 6 i 5 x) := ev_go f_Bk_drawBelow_12 rfl
theorem f_Bk_drawBelow_15 : fetch 12 15 = some (.iload_n 1) := by decide +kernel
theorem e_Bk_drawBelow_15 (a0 : AV) (σ : aM) (l1 : Int) (r : List AV)  : ev 12 15 [a0, aI l1] (r) σ = ev 12 16 [a0, aI l1] (aI l1 :: r) σ := ev_go f_Bk_drawBelow_15 rfl
theorem f_Bk_drawBelow_16 : fetch 12 16 = some (.iconst 1) := by decide +kernel
theorem e_Bk_drawBelow_16 (a0 a1 : AV) (σ : aM) (r : List AV)  : ev 12 16 [a0, a1] (r) σ = ev 12 17 [a0, a1] (aI 1 :: r) σ := ev_go f_Bk_drawBelow_16 rfl
theorem f_Bk_drawBelow_17 : fetch 12 17 = some (.if_icmp .ge 7) := by decide +kernel
theorem e_Bk_drawBelow_17 (a0 a1 : AV) (σ : aM) (x z : Int) (r : List AV) : ev 12 17 [a0, a1] (aI z :: aI x :: r) σ = if z ≤ x then ev 12 24 [a0, a1] r σ else ev 12 20 [a0, a1] r σ := ev_br f_Bk_drawBelow_17 rfl bc_ge
theorem f_Bk_drawBelow_20 : fetch 12 20 = some (.iconst 0) := by decide +kernel
theorem e_Bk_drawBelow_20 (a0 a1 : AV) (σ : aM) (r : List AV)  : ev 12 20 [a0, a1] (r) σ = ev 12 21 [a0, a1] (aI 0 :: r) σ := ev_go f_Bk_drawBelow_20 rfl
theorem f_Bk_drawBelow_21 : fetch 12 21 = some (.goto 12) := by decide +kernel
theorem e_Bk_drawBelow_21 (a0 a1 : AV) (σ : aM) (r : List AV)  : ev 12 21 [a0, a1] (r) σ = ev 12 33 [a0, a1] (r) σ := ev_go f_Bk_drawBelow_21 rfl
theorem f_Bk_drawBelow_24 : fetch 12 24 = some (.aload_n 0) := by decide +kernel
theorem e_Bk_drawBelow_24 (a1 : AV) (σ : aM) (l0 : Option (Nat × Int)) (r : List AV)  : ev 12 24 [aQ l0, a1] (r) σ = ev 12 25 [aQ l0, a1] (aQ l0 :: r) σ := ev_go f_Bk_drawBelow_24 rfl
theorem f_Bk_drawBelow_25 : fetch 12 25 = some (.getfield 34) := by decide +kernel
theorem e_Bk_drawBelow_25 (a0 a1 : AV) (σ : aM) (i : Int) (r : List AV)  : ev 12 25 [a0, a1] (aR 6 i :: r) σ = ev 12 28 [a0, a1] (aI (gI σ 6 i 5) :: r) σ := ev_go f_Bk_drawBelow_25 rfl
theorem f_Bk_drawBelow_28 : fetch 12 28 = some (.bipush 16) := by decide +kernel
theorem e_Bk_drawBelow_28 (a0 a1 : AV) (σ : aM) (r : List AV)  : ev 12 28 [a0, a1] (r) σ = ev 12 30 [a0, a1] (aI 16 :: r) σ := ev_go f_Bk_drawBelow_28 rfl
theorem f_Bk_drawBelow_30 : fetch 12 30 = some (.iushr) := by decide +kernel
theorem e_Bk_drawBelow_30 (a0 a1 : AV) (σ : aM) (x z : Int) (r : List AV)  : ev 12 30 [a0, a1] (aI z :: aI x :: r) σ = ev 12 31 [a0, a1] (aI (shr x z) :: r) σ := ev_go f_Bk_drawBelow_30 rfl
theorem f_Bk_drawBelow_31 : fetch 12 31 = some (.iload_n 1) := by decide +kernel
theorem e_Bk_drawBelow_31 (a0 : AV) (σ : aM) (l1 : Int) (r : List AV)  : ev 12 31 [a0, aI l1] (r) σ = ev 12 32 [a0, aI l1] (aI l1 :: r) σ := ev_go f_Bk_drawBelow_31 rfl
theorem f_Bk_drawBelow_32 : fetch 12 32 = some (.irem) := by decide +kernel
theorem e_Bk_drawBelow_32 (a0 a1 : AV) (σ : aM) (x z : Int) (r : List AV) (h : ¬ z = 0) : ev 12 32 [a0, a1] (aI z :: aI x :: r) σ = ev 12 33 [a0, a1] (aI (rem x z) :: r) σ := ev_cd f_Bk_drawBelow_32 rfl h
theorem f_Bk_drawBelow_33 : fetch 12 33 = some (.ireturn) := by decide +kernel
theorem e_Bk_drawBelow_33 (a0 a1 : AV) (σ : aM) (x : Int) : ev 12 33 [a0, a1] [aI x] σ = some ((some (aI x)), σ) := ev_ret f_Bk_drawBelow_33 rfl
theorem f_Dk_bring_0 : fetch 14 0 = some (.aload_n 0) := by decide +kernel
theorem e_Dk_bring_0 (a1 a2 a3 a4 a5 a6 a7 a8 : AV) (σ : aM) (l0 : Option (Nat × Int)) (r : List AV)  : ev 14 0 [aQ l0, a1, a2, a3, a4, a5, a6, a7, a8] (r) σ = ev 14 1 [aQ l0, a1, a2, a3, a4, a5, a6, a7, a8] (aQ l0 :: r) σ := ev_go f_Dk_bring_0 rfl
theorem f_Dk_bring_1 : fetch 14 1 = some (.getfield 12) := by decide +kernel
theorem e_Dk_bring_1 (a0 a1 a2 a3 a4 a5 a6 a7 a8 : AV) (σ : aM) (i : Int) (r : List AV)  : ev 14 1 [a0, a1, a2, a3, a4, a5, a6, a7, a8] (aR 5 i :: r) σ = ev 14 4 [a0, a1, a2, a3, a4, a5, a6, a7, a8] (aR 6 0 :: r) σ := ev_go f_Dk_bring_1 rfl
theorem f_Dk_bring_4 : fetch 14 4 = some (.getfield 27) := by decide +kernel
theorem e_Dk_bring_4 (a0 a1 a2 a3 a4 a5 a6 a7 a8 : AV) (σ : aM) (i : Int) (r : List AV)  : ev 14 4 [a0, a1, a2, a3, a4, a5, a6, a7, a8] (aR 6 i :: r) σ = ev 14 7 [a0, a1, a2, a3, a4, a5, a6, a7, a8] (aI (gI σ 6 i 2) :: r) σ := ev_go f_Dk_bring_4 rfl
theorem f_Dk_bring_7 : fetch 14 7 = some (.bipush 60) := by decide +kernel
theorem e_Dk_bring_7 (a0 a1 a2 a3 a4 a5 a6 a7 a8 : AV) (σ : aM) (r : List AV)  : ev 14 7 [a0, a1, a2, a3, a4, a5, a6, a7, a8] (r) σ = ev 14 9 [a0, a1, a2, a3, a4, a5, a6, a7, a8] (aI 60 :: r) σ := ev_go f_Dk_bring_7 rfl
theorem f_Dk_bring_9 : fetch 14 9 = some (.if_icmp .lt 5) := by decide +kernel
theorem e_Dk_bring_9 (a0 a1 a2 a3 a4 a5 a6 a7 a8 : AV) (σ : aM) (x z : Int) (r : List AV) : ev 14 9 [a0, a1, a2, a3, a4, a5, a6, a7, a8] (aI z :: aI x :: r) σ = if x < z then ev 14 14 [a0, a1, a2, a3, a4, a5, a6, a7, a8] r σ else ev 14 12 [a0, a1, a2, a3, a4, a5, a6, a7, a8] r σ := ev_br f_Dk_bring_9 rfl bc_lt
theorem f_Dk_bring_12 : fetch 14 12 = some (.iconst (-1)) := by decide +kernel
theorem e_Dk_bring_12 (a0 a1 a2 a3 a4 a5 a6 a7 a8 : AV) (σ : aM) (r : List AV)  : ev 14 12 [a0, a1, a2, a3, a4, a5, a6, a7, a8] (r) σ = ev 14 13 [a0, a1, a2, a3, a4, a5, a6, a7, a8] (aI (-1) :: r) σ := ev_go f_Dk_bring_12 rfl
theorem f_Dk_bring_13 : fetch 14 13 = some (.ireturn) := by decide +kernel
theorem e_Dk_bring_13 (a0 a1 a2 a3 a4 a5 a6 a7 a8 : AV) (σ : aM) (x : Int) : ev 14 13 [a0, a1, a2, a3, a4, a5, a6, a7, a8] [aI x] σ = some ((some (aI x)), σ) := ev_ret f_Dk_bring_13 rfl
theorem f_Dk_bring_14 : fetch 14 14 = some (.aload_n 0) := by decide +kernel
theorem e_Dk_bring_14 (a1 a2 a3 a4 a5 a6 a7 a8 : AV) (σ : aM) (l0 : Option (Nat × Int)) (r : List AV)  : ev 14 14 [aQ l0, a1, a2, a3, a4, a5, a6, a7, a8] (r) σ = ev 14 15 [aQ l0, a1, a2, a3, a4, a5, a6, a7, a8] (aQ l0 :: r) σ := ev_go f_Dk_bring_14 rfl
theorem f_Dk_bring_15 : fetch 14 15 = some (.getfield 12) := by decide +kernel
theorem e_Dk_bring_15 (a0 a1 a2 a3 a4 a5 a6 a7 a8 : AV) (σ : aM) (i : Int) (r : List AV)  : ev 14 15 [a0, a1, a2, a3, a4, a5, a6, a7, a8] (aR 5 i :: r) σ = ev 14 18 [a0, a1, a2, a3, a4, a5, a6, a7, a8] (aR 6 0 :: r) σ := ev_go f_Dk_bring_15 rfl
theorem f_Dk_bring_18 : fetch 14 18 = some (.getfield 31) := by decide +kernel
theorem e_Dk_bring_18 (a0 a1 a2 a3 a4 a5 a6 a7 a8 : AV) (σ : aM) (i : Int) (r : List AV)  : ev 14 18 [a0, a1, a2, a3, a4, a5, a6, a7, a8] (aR 6 i :: r) σ = ev 14 21 [a0, a1, a2, a3, a4, a5, a6, a7, a8] (aR 7 i :: r) σ := ev_go f_Dk_bring_18 rfl
theorem f_Dk_bring_21 : fetch 14 21 = some (.aload_n 0) := by decide +kernel
theorem e_Dk_bring_21 (a1 a2 a3 a4 a5 a6 a7 a8 : AV) (σ : aM) (l0 : Option (Nat × Int)) (r : List AV)  : ev 14 21 [aQ l0, a1, a2, a3, a4, a5, a6, a7, a8] (r) σ = ev 14 22 [aQ l0, a1, a2, a3, a4, a5, a6, a7, a8] (aQ l0 :: r) σ := ev_go f_Dk_bring_21 rfl
theorem f_Dk_bring_22 : fetch 14 22 = some (.getfield 12) := by decide +kernel
theorem e_Dk_bring_22 (a0 a1 a2 a3 a4 a5 a6 a7 a8 : AV) (σ : aM) (i : Int) (r : List AV)  : ev 14 22 [a0, a1, a2, a3, a4, a5, a6, a7, a8] (aR 5 i :: r) σ = ev 14 25 [a0, a1, a2, a3, a4, a5, a6, a7, a8] (aR 6 0 :: r) σ := ev_go f_Dk_bring_22 rfl
theorem f_Dk_bring_25 : fetch 14 25 = some (.getfield 27) := by decide +kernel
theorem e_Dk_bring_25 (a0 a1 a2 a3 a4 a5 a6 a7 a8 : AV) (σ : aM) (i : Int) (r : List AV)  : ev 14 25 [a0, a1, a2, a3, a4, a5, a6, a7, a8] (aR 6 i :: r) σ = ev 14 28 [a0, a1, a2, a3, a4, a5, a6, a7, a8] (aI (gI σ 6 i 2) :: r) σ := ev_go f_Dk_bring_25 rfl
theorem f_Dk_bring_28 : fetch 14 28 = some (.aaload) := by decide +kernel
theorem e_Dk_bring_28 (a0 a1 a2 a3 a4 a5 a6 a7 a8 : AV) (σ : aM) (x : Int) (i : Int) (r : List AV) (h : 0 ≤ x ∧ x < 60) : ev 14 28 [a0, a1, a2, a3, a4, a5, a6, a7, a8] (aI x :: aR 7 i :: r) σ = ev 14 29 [a0, a1, a2, a3, a4, a5, a6, a7, a8] (aR 8 (60 * i + x) :: r) σ := ev_cd f_Dk_bring_28 rfl ⟨by decide, by decide, h.1, by rw [aLen_n (by decide) rfl]; exact h.2⟩
theorem f_Dk_bring_29 : fetch 14 29 = some (.astore 8) := by decide +kernel
theorem e_Dk_bring_29 (a0 a1 a2 a3 a4 a5 a6 a8 : AV) (σ : aM) (q : Option (Nat × Int)) (l7 : Int) (r : List AV)  : ev 14 29 [a0, a1, a2, a3, a4, a5, a6, aI l7, a8] (aQ q :: r) σ = ev 14 31 [a0, a1, a2, a3, a4, a5, a6, aI l7, aQ q] (r) σ := ev_go f_Dk_bring_29 rfl
theorem f_Dk_bring_31 : fetch 14 31 = some (.aload_n 0) := by decide +kernel
theorem e_Dk_bring_31 (a1 a2 a3 a4 a5 a6 a7 a8 : AV) (σ : aM) (l0 : Option (Nat × Int)) (r : List AV)  : ev 14 31 [aQ l0, a1, a2, a3, a4, a5, a6, a7, a8] (r) σ = ev 14 32 [aQ l0, a1, a2, a3, a4, a5, a6, a7, a8] (aQ l0 :: r) σ := ev_go f_Dk_bring_31 rfl
theorem f_Dk_bring_32 : fetch 14 32 = some (.getfield 12) := by decide +kernel
theorem e_Dk_bring_32 (a0 a1 a2 a3 a4 a5 a6 a7 a8 : AV) (σ : aM) (i : Int) (r : List AV)  : ev 14 32 [a0, a1, a2, a3, a4, a5, a6, a7, a8] (aR 5 i :: r) σ = ev 14 35 [a0, a1, a2, a3, a4, a5, a6, a7, a8] (aR 6 0 :: r) σ := ev_go f_Dk_bring_32 rfl
theorem f_Dk_bring_35 : fetch 14 35 = some (.dup) := by decide +kernel
theorem e_Dk_bring_35 (a0 a1 a2 a3 a4 a5 a6 a7 a8 : AV) (σ : aM) (x : Option (Nat × Int)) (r : List AV)  : ev 14 35 [a0, a1, a2, a3, a4, a5, a6, a7, a8] (aQ x :: r) σ = ev 14 36 [a0, a1, a2, a3, a4, a5, a6, a7, a8] (aQ x :: aQ x :: r) σ := ev_go f_Dk_bring_35 rfl
theorem f_Dk_bring_36 : fetch 14 36 = some (.getfield 27) := by decide +kernel
theorem e_Dk_bring_36 (a0 a1 a2 a3 a4 a5 a6 a7 a8 : AV) (σ : aM) (i : Int) (r : List AV)  : ev 14 36 [a0, a1, a2, a3, a4, a5, a6, a7, a8] (aR 6 i :: r) σ = ev 14 39 [a0, a1, a2, a3, a4, a5, a6, a7, a8] (aI (gI σ 6 i 2) :: r) σ := ev_go f_Dk_bring_36 rfl
theorem f_Dk_bring_39 : fetch 14 39 = some (.iconst 1) := by decide +kernel
theorem e_Dk_bring_39 (a0 a1 a2 a3 a4 a5 a6 a7 a8 : AV) (σ : aM) (r : List AV)  : ev 14 39 [a0, a1, a2, a3, a4, a5, a6, a7, a8] (r) σ = ev 14 40 [a0, a1, a2, a3, a4, a5, a6, a7, a8] (aI 1 :: r) σ := ev_go f_Dk_bring_39 rfl
theorem f_Dk_bring_40 : fetch 14 40 = some (.iadd) := by decide +kernel
theorem e_Dk_bring_40 (a0 a1 a2 a3 a4 a5 a6 a7 a8 : AV) (σ : aM) (x z : Int) (r : List AV)  : ev 14 40 [a0, a1, a2, a3, a4, a5, a6, a7, a8] (aI z :: aI x :: r) σ = ev 14 41 [a0, a1, a2, a3, a4, a5, a6, a7, a8] (aI (wr (x + z)) :: r) σ := ev_go f_Dk_bring_40 rfl
theorem f_Dk_bring_41 : fetch 14 41 = some (.putfield 27) := by decide +kernel
theorem e_Dk_bring_41 (a0 a1 a2 a3 a4 a5 a6 a7 a8 : AV) (σ : aM) (i : Int) (x : Int) (r : List AV)  : ev 14 41 [a0, a1, a2, a3, a4, a5, a6, a7, a8] (aI x :: aR 6 i :: r) σ = ev 14 44 [a0, a1, a2, a3, a4, a5, a6, a7, a8] (r) (uI σ 6 i 2 x) := ev_go f_Dk_bring_41 rfl
theorem f_Dk_bring_44 : fetch 14 44 = some (.aload 8) := by decide +kernel
theorem e_Dk_bring_44 (a0 a1 a2 a3 a4 a5 a6 a7 : AV) (σ : aM) (l8 : Option (Nat × Int)) (r : List AV)  : ev 14 44 [a0, a1, a2, a3, a4, a5, a6, a7, aQ l8] (r) σ = ev 14 46 [a0, a1, a2, a3, a4, a5, a6, a7, aQ l8] (aQ l8 :: r) σ := ev_go f_Dk_bring_44 rfl
theorem f_Dk_bring_46 : fetch 14 46 = some (.iload_n 1) := by decide +kernel
theorem e_Dk_bring_46 (a0 a2 a3 a4 a5 a6 a7 a8 : AV) (σ : aM) (l1 : Int) (r : List AV)  : ev 14 46 [a0, aI l1, a2, a3, a4, a5, a6, a7, a8] (r) σ = ev 14 47 [a0, aI l1, a2, a3, a4, a5, a6, a7, a8] (aI l1 :: r) σ := ev_go f_Dk_bring_46 rfl
theorem f_Dk_bring_47 : fetch 14 47 = some (.iload_n 2) := by decide +kernel
theorem e_Dk_bring_47 (a0 a1 a3 a4 a5 a6 a7 a8 : AV) (σ : aM) (l2 : Int) (r : List AV)  : ev 14 47 [a0, a1, aI l2, a3, a4, a5, a6, a7, a8] (r) σ = ev 14 48 [a0, a1, aI l2, a3, a4, a5, a6, a7, a8] (aI l2 :: r) σ := ev_go f_Dk_bring_47 rfl
theorem f_Dk_bring_48 : fetch 14 48 = some (.iload_n 3) := by decide +kernel
theorem e_Dk_bring_48 (a0 a1 a2 a4 a5 a6 a7 a8 : AV) (σ : aM) (l3 : Int) (r : List AV)  : ev 14 48 [a0, a1, a2, aI l3, a4, a5, a6, a7, a8] (r) σ = ev 14 49 [a0, a1, a2, aI l3, a4, a5, a6, a7, a8] (aI l3 :: r) σ := ev_go f_Dk_bring_48 rfl
theorem f_Dk_bring_49 : fetch 14 49 = some (.iload 4) := by decide +kernel
theorem e_Dk_bring_49 (a0 a1 a2 a3 a5 a6 a7 a8 : AV) (σ : aM) (l4 : Int) (r : List AV)  : ev 14 49 [a0, a1, a2, a3, aI l4, a5, a6, a7, a8] (r) σ = ev 14 51 [a0, a1, a2, a3, aI l4, a5, a6, a7, a8] (aI l4 :: r) σ := ev_go f_Dk_bring_49 rfl
theorem f_Dk_bring_51 : fetch 14 51 = some (.iload 5) := by decide +kernel
theorem e_Dk_bring_51 (a0 a1 a2 a3 a4 a6 a7 a8 : AV) (σ : aM) (l5 : Int) (r : List AV)  : ev 14 51 [a0, a1, a2, a3, a4, aI l5, a6, a7, a8] (r) σ = ev 14 53 [a0, a1, a2, a3, a4, aI l5, a6, a7, a8] (aI l5 :: r) σ := ev_go f_Dk_bring_51 rfl
theorem f_Dk_bring_53 : fetch 14 53 = some (.iload 6) := by decide +kernel
theorem e_Dk_bring_53 (a0 a1 a2 a3 a4 a5 a7 a8 : AV) (σ : aM) (l6 : Int) (r : List AV)  : ev 14 53 [a0, a1, a2, a3, a4, a5, aI l6, a7, a8] (r) σ = ev 14 55 [a0, a1, a2, a3, a4, a5, aI l6, a7, a8] (aI l6 :: r) σ := ev_go f_Dk_bring_53 rfl
theorem f_Dk_bring_55 : fetch 14 55 = some (.invokevirtual 35) := by decide +kernel
theorem e_Dk_bring_55 (a0 a1 a2 a3 a4 a5 a6 a7 a8 : AV) (σ : aM) (s0 : Int) (s1 : Int) (s2 : Int) (s3 : Int) (s4 : Int) (s5 : Int) (s6 : Int) : ev 14 55 [a0, a1, a2, a3, a4, a5, a6, a7, a8] [aI s6, aI s5, aI s4, aI s3, aI s2, aI s1, aR 8 s0] σ = evK 14 58 [a0, a1, a2, a3, a4, a5, a6, a7, a8] [] (ev 34 0 [aR 8 s0, aI s1, aI s2, aI s3, aI s4, aI s5, aI s6] [] σ) := ev_call f_Dk_bring_55 rfl rfl
theorem f_Dk_bring_58 : fetch 14 58 = some (.iload_n 1) := by decide +kernel
theorem e_Dk_bring_58 (a0 a2 a3 a4 a5 a6 a7 a8 : AV) (σ : aM) (l1 : Int) (r : List AV)  : ev 14 58 [a0, aI l1, a2, a3, a4, a5, a6, a7, a8] (r) σ = ev 14 59 [a0, aI l1, a2, a3, a4, a5, a6, a7, a8] (aI l1 :: r) σ := ev_go f_Dk_bring_58 rfl
theorem f_Dk_bring_59 : fetch 14 59 = some (.iconst 4) := by decide +kernel
theorem e_Dk_bring_59 (a0 a1 a2 a3 a4 a5 a6 a7 a8 : AV) (σ : aM) (r : List AV)  : ev 14 59 [a0, a1, a2, a3, a4, a5, a6, a7, a8] (r) σ = ev 14 60 [a0, a1, a2, a3, a4, a5, a6, a7, a8] (aI 4 :: r) σ := ev_go f_Dk_bring_59 rfl
theorem f_Dk_bring_60 : fetch 14 60 = some (.if_icmp .ne 12) := by decide +kernel
theorem e_Dk_bring_60 (a0 a1 a2 a3 a4 a5 a6 a7 a8 : AV) (σ : aM) (x z : Int) (r : List AV) : ev 14 60 [a0, a1, a2, a3, a4, a5, a6, a7, a8] (aI z :: aI x :: r) σ = if ¬ x = z then ev 14 72 [a0, a1, a2, a3, a4, a5, a6, a7, a8] r σ else ev 14 63 [a0, a1, a2, a3, a4, a5, a6, a7, a8] r σ := ev_br f_Dk_bring_60 rfl bc_ne
theorem f_Dk_bring_63 : fetch 14 63 = some (.aload 8) := by decide +kernel
theorem e_Dk_bring_63 (a0 a1 a2 a3 a4 a5 a6 a7 : AV) (σ : aM) (l8 : Option (Nat × Int)) (r : List AV)  : ev 14 63 [a0, a1, a2, a3, a4, a5, a6, a7, aQ l8] (r) σ = ev 14 65 [a0, a1, a2, a3, a4, a5, a6, a7, aQ l8] (aQ l8 :: r) σ := ev_go f_Dk_bring_63 rfl
theorem f_Dk_bring_65 : fetch 14 65 = some (.iconst 0) := by decide +kernel
theorem e_Dk_bring_65 (a0 a1 a2 a3 a4 a5 a6 a7 a8 : AV) (σ : aM) (r : List AV)  : ev 14 65 [a0, a1, a2, a3, a4, a5, a6, a7, a8] (r) σ = ev 14 66 [a0, a1, a2, a3, a4, a5, a6, a7, a8] (aI 0 :: r) σ := ev_go f_Dk_bring_65 rfl
theorem f_Dk_bring_66 : fetch 14 66 = some (.putfield 39) := by decide +kernel
theorem e_Dk_bring_66 (a0 a1 a2 a3 a4 a5 a6 a7 a8 : AV) (σ : aM) (i : Int) (x : Int) (r : List AV)  : ev 14 66 [a0, a1, a2, a3, a4, a5, a6, a7, a8] (aI x :: aR 8 i :: r) σ = ev 14 69 [a0, a1, a2, a3, a4, a5, a6, a7, a8] (r) (uI σ 8 i 5 x) := ev_go f_Dk_bring_66 rfl
theorem f_Dk_bring_69 : fetch 14 69 = some (.goto 42) := by decide +kernel
theorem e_Dk_bring_69 (a0 a1 a2 a3 a4 a5 a6 a7 a8 : AV) (σ : aM) (r : List AV)  : ev 14 69 [a0, a1, a2, a3, a4, a5, a6, a7, a8] (r) σ = ev 14 111 [a0, a1, a2, a3, a4, a5, a6, a7, a8] (r) σ := ev_go f_Dk_bring_69 rfl
theorem f_Dk_bring_72 : fetch 14 72 = some (.iload_n 1) := by decide +kernel
theorem e_Dk_bring_72 (a0 a2 a3 a4 a5 a6 a7 a8 : AV) (σ : aM) (l1 : Int) (r : List AV)  : ev 14 72 [a0, aI l1, a2, a3, a4, a5, a6, a7, a8] (r) σ = ev 14 73 [a0, aI l1, a2, a3, a4, a5, a6, a7, a8] (aI l1 :: r) σ := ev_go f_Dk_bring_72 rfl
theorem f_Dk_bring_73 : fetch 14 73 = some (.iconst 3) := by decide +kernel
theorem e_Dk_bring_73 (a0 a1 a2 a3 a4 a5 a6 a7 a8 : AV) (σ : aM) (r : List AV)  : ev 14 73 [a0, a1, a2, a3, a4, a5, a6, a7, a8] (r) σ = ev 14 74 [a0, a1, a2, a3, a4, a5, a6, a7, a8] (aI 3 :: r) σ := ev_go f_Dk_bring_73 rfl
theorem f_Dk_bring_74 : fetch 14 74 = some (.if_icmp .ne 15) := by decide +kernel
theorem e_Dk_bring_74 (a0 a1 a2 a3 a4 a5 a6 a7 a8 : AV) (σ : aM) (x z : Int) (r : List AV) : ev 14 74 [a0, a1, a2, a3, a4, a5, a6, a7, a8] (aI z :: aI x :: r) σ = if ¬ x = z then ev 14 89 [a0, a1, a2, a3, a4, a5, a6, a7, a8] r σ else ev 14 77 [a0, a1, a2, a3, a4, a5, a6, a7, a8] r σ := ev_br f_Dk_bring_74 rfl bc_ne
theorem f_Dk_bring_77 : fetch 14 77 = some (.aload_n 0) := by decide +kernel
theorem e_Dk_bring_77 (a1 a2 a3 a4 a5 a6 a7 a8 : AV) (σ : aM) (l0 : Option (Nat × Int)) (r : List AV)  : ev 14 77 [aQ l0, a1, a2, a3, a4, a5, a6, a7, a8] (r) σ = ev 14 78 [aQ l0, a1, a2, a3, a4, a5, a6, a7, a8] (aQ l0 :: r) σ := ev_go f_Dk_bring_77 rfl
theorem f_Dk_bring_78 : fetch 14 78 = some (.getfield 12) := by decide +kernel
theorem e_Dk_bring_78 (a0 a1 a2 a3 a4 a5 a6 a7 a8 : AV) (σ : aM) (i : Int) (r : List AV)  : ev 14 78 [a0, a1, a2, a3, a4, a5, a6, a7, a8] (aR 5 i :: r) σ = ev 14 81 [a0, a1, a2, a3, a4, a5, a6, a7, a8] (aR 6 0 :: r) σ := ev_go f_Dk_bring_78 rfl
theorem f_Dk_bring_81 : fetch 14 81 = some (.aload 8) := by decide +kernel
theorem e_Dk_bring_81 (a0 a1 a2 a3 a4 a5 a6 a7 : AV) (σ : aM) (l8 : Option (Nat × Int)) (r : List AV)  : ev 14 81 [a0, a1, a2, a3, a4, a5, a6, a7, aQ l8] (r) σ = ev 14 83 [a0, a1, a2, a3, a4, a5, a6, a7, aQ l8] (aQ l8 :: r) σ := ev_go f_Dk_bring_81 rfl
theorem f_Dk_bring_83 : fetch 14 83 = some (.invokevirtual 42) := by decide +kernel
theorem e_Dk_bring_83 (a0 a1 a2 a3 a4 a5 a6 a7 a8 : AV) (σ : aM) (s0 : Int) (s1 : Option (Nat × Int)) : ev 14 83 [a0, a1, a2, a3, a4, a5, a6, a7, a8] [aQ s1, aR 6 s0] σ = evK 14 86 [a0, a1, a2, a3, a4, a5, a6, a7, a8] [] (ev 7 0 [aR 6 s0, aQ s1] [] σ) := ev_call f_Dk_bring_83 rfl rfl
theorem f_Dk_bring_86 : fetch 14 86 = some (.goto 25) := by decide +kernel
theorem e_Dk_bring_86 (a0 a1 a2 a3 a4 a5 a6 a7 a8 : AV) (σ : aM) (r : List AV)  : ev 14 86 [a0, a1, a2, a3, a4, a5, a6, a7, a8] (r) σ = ev 14 111 [a0, a1, a2, a3, a4, a5, a6, a7, a8] (r) σ := ev_go f_Dk_bring_86 rfl
theorem f_Dk_bring_89 : fetch 14 89 = some (.iload 7) := by decide +kernel
theorem e_Dk_bring_89 (a0 a1 a2 a3 a4 a5 a6 a8 : AV) (σ : aM) (l7 : Int) (r : List AV)  : ev 14 89 [a0, a1, a2, a3, a4, a5, a6, aI l7, a8] (r) σ = ev 14 91 [a0, a1, a2, a3, a4, a5, a6, aI l7, a8] (aI l7 :: r) σ := ev_go f_Dk_bring_89 rfl
theorem f_Dk_bring_91 : fetch 14 91 = some (.ifCond .ne 12) := by decide +kernel
theorem e_Dk_bring_91 (a0 a1 a2 a3 a4 a5 a6 a7 a8 : AV) (σ : aM) (x : Int) (r : List AV) : ev 14 91 [a0, a1, a2, a3, a4, a5, a6, a7, a8] (aI x :: r) σ = if ¬ x = 0 then ev 14 103 [a0, a1, a2, a3, a4, a5, a6, a7, a8] r σ else ev 14 94 [a0, a1, a2, a3, a4, a5, a6, a7, a8] r σ := ev_br f_Dk_bring_91 rfl bc_ne
theorem f_Dk_bring_94 : fetch 14 94 = some (.aload_n 0) := by decide +kernel
theorem e_Dk_bring_94 (a1 a2 a3 a4 a5 a6 a7 a8 : AV) (σ : aM) (l0 : Option (Nat × Int)) (r : List AV)  : ev 14 94 [aQ l0, a1, a2, a3, a4, a5, a6, a7, a8] (r) σ = ev 14 95 [aQ l0, a1, a2, a3, a4, a5, a6, a7, a8] (aQ l0 :: r) σ := ev_go f_Dk_bring_94 rfl
theorem f_Dk_bring_95 : fetch 14 95 = some (.aload 8) := by decide +kernel
theorem e_Dk_bring_95 (a0 a1 a2 a3 a4 a5 a6 a7 : AV) (σ : aM) (l8 : Option (Nat × Int)) (r : List AV)  : ev 14 95 [a0, a1, a2, a3, a4, a5, a6, a7, aQ l8] (r) σ = ev 14 97 [a0, a1, a2, a3, a4, a5, a6, a7, aQ l8] (aQ l8 :: r) σ := ev_go f_Dk_bring_95 rfl
theorem f_Dk_bring_97 : fetch 14 97 = some (.invokevirtual 46) := by decide +kernel
theorem e_Dk_bring_97 (a0 a1 a2 a3 a4 a5 a6 a7 a8 : AV) (σ : aM) (s0 : Int) (s1 : Option (Nat × Int)) : ev 14 97 [a0, a1, a2, a3, a4, a5, a6, a7, a8] [aQ s1, aR 5 s0] σ = evK 14 100 [a0, a1, a2, a3, a4, a5, a6, a7, a8] [] (ev 18 0 [aR 5 s0, aQ s1] [] σ) := ev_call f_Dk_bring_97 rfl rfl
theorem f_Dk_bring_100 : fetch 14 100 = some (.goto 11) := by decide +kernel
theorem e_Dk_bring_100 (a0 a1 a2 a3 a4 a5 a6 a7 a8 : AV) (σ : aM) (r : List AV)  : ev 14 100 [a0, a1, a2, a3, a4, a5, a6, a7, a8] (r) σ = ev 14 111 [a0, a1, a2, a3, a4, a5, a6, a7, a8] (r) σ := ev_go f_Dk_bring_100 rfl
theorem f_Dk_bring_103 : fetch 14 103 = some (.aload_n 0) := by decide +kernel
theorem e_Dk_bring_103 (a1 a2 a3 a4 a5 a6 a7 a8 : AV) (σ : aM) (l0 : Option (Nat × Int)) (r : List AV)  : ev 14 103 [aQ l0, a1, a2, a3, a4, a5, a6, a7, a8] (r) σ = ev 14 104 [aQ l0, a1, a2, a3, a4, a5, a6, a7, a8] (aQ l0 :: r) σ := ev_go f_Dk_bring_103 rfl
theorem f_Dk_bring_104 : fetch 14 104 = some (.aload 8) := by decide +kernel
theorem e_Dk_bring_104 (a0 a1 a2 a3 a4 a5 a6 a7 : AV) (σ : aM) (l8 : Option (Nat × Int)) (r : List AV)  : ev 14 104 [a0, a1, a2, a3, a4, a5, a6, a7, aQ l8] (r) σ = ev 14 106 [a0, a1, a2, a3, a4, a5, a6, a7, aQ l8] (aQ l8 :: r) σ := ev_go f_Dk_bring_104 rfl
theorem f_Dk_bring_106 : fetch 14 106 = some (.iload 7) := by decide +kernel
theorem e_Dk_bring_106 (a0 a1 a2 a3 a4 a5 a6 a8 : AV) (σ : aM) (l7 : Int) (r : List AV)  : ev 14 106 [a0, a1, a2, a3, a4, a5, a6, aI l7, a8] (r) σ = ev 14 108 [a0, a1, a2, a3, a4, a5, a6, aI l7, a8] (aI l7 :: r) σ := ev_go f_Dk_bring_106 rfl
theorem f_Dk_bring_108 : fetch 14 108 = some (.invokevirtual 49) := by decide +kernel
theorem e_Dk_bring_108 (a0 a1 a2 a3 a4 a5 a6 a7 a8 : AV) (σ : aM) (s0 : Int) (s1 : Option (Nat × Int)) (s2 : Int) : ev 14 108 [a0, a1, a2, a3, a4, a5, a6, a7, a8] [aI s2, aQ s1, aR 5 s0] σ = evK 14 111 [a0, a1, a2, a3, a4, a5, a6, a7, a8] [] (ev 19 0 [aR 5 s0, aQ s1, aI s2] [] σ) := ev_call f_Dk_bring_108 rfl rfl
theorem f_Dk_bring_111 : fetch 14 111 = some (.aload_n 0) := by decide +kernel
theorem e_Dk_bring_111 (a1 a2 a3 a4 a5 a6 a7 a8 : AV) (σ : aM) (l0 : Option (Nat × Int)) (r : List AV)  : ev 14 111 [aQ l0, a1, a2, a3, a4, a5, a6, a7, a8] (r) σ = ev 14 112 [aQ l0, a1, a2, a3, a4, a5, a6, a7, a8] (aQ l0 :: r) σ := ev_go f_Dk_bring_111 rfl
theorem f_Dk_bring_112 : fetch 14 112 = some (.invokevirtual 53) := by decide +kernel
theorem e_Dk_bring_112 (a0 a1 a2 a3 a4 a5 a6 a7 a8 : AV) (σ : aM) (s0 : Int) : ev 14 112 [a0, a1, a2, a3, a4, a5, a6, a7, a8] [aR 5 s0] σ = evK 14 115 [a0, a1, a2, a3, a4, a5, a6, a7, a8] [] (ev 30 0 [aR 5 s0, aU, aU] [] σ) := ev_call f_Dk_bring_112 rfl rfl
theorem f_Dk_bring_115 : fetch 14 115 = some (.aload 8) := by decide +kernel
theorem e_Dk_bring_115 (a0 a1 a2 a3 a4 a5 a6 a7 : AV) (σ : aM) (l8 : Option (Nat × Int)) (r : List AV)  : ev 14 115 [a0, a1, a2, a3, a4, a5, a6, a7, aQ l8] (r) σ = ev 14 117 [a0, a1, a2, a3, a4, a5, a6, a7, aQ l8] (aQ l8 :: r) σ := ev_go f_Dk_bring_115 rfl
theorem f_Dk_bring_117 : fetch 14 117 = some (.getfield 56) := by decide +kernel
theorem e_Dk_bring_117 (a0 a1 a2 a3 a4 a5 a6 a7 a8 : AV) (σ : aM) (i : Int) (r : List AV)  : ev 14 117 [a0, a1, a2, a3, a4, a5, a6, a7, a8] (aR 8 i :: r) σ = ev 14 120 [a0, a1, a2, a3, a4, a5, a6, a7, a8] (aI (gI σ 8 i 0) :: r) σ := ev_go f_Dk_bring_117 rfl
theorem f_Dk_bring_120 : fetch 14 120 = some (.ireturn) := by decide +kernel
theorem e_Dk_bring_120 (a0 a1 a2 a3 a4 a5 a6 a7 a8 : AV) (σ : aM) (x : Int) : ev 14 120 [a0, a1, a2, a3, a4, a5, a6, a7, a8] [aI x] σ = some ((some (aI x)), σ) := ev_ret f_Dk_bring_120 rfl
theorem f_Dk_pass_0 : fetch 15 0 = some (.aload_n 0) := by decide +kernel
theorem e_Dk_pass_0 (a1 a2 a3 : AV) (σ : aM) (l0 : Option (Nat × Int)) (r : List AV)  : ev 15 0 [aQ l0, a1, a2, a3] (r) σ = ev 15 1 [aQ l0, a1, a2, a3] (aQ l0 :: r) σ := ev_go f_Dk_pass_0 rfl
theorem f_Dk_pass_1 : fetch 15 1 = some (.getfield 23) := by decide +kernel
theorem e_Dk_pass_1 (a0 a1 a2 a3 : AV) (σ : aM) (i : Int) (r : List AV)  : ev 15 1 [a0, a1, a2, a3] (aR 5 i :: r) σ = ev 15 4 [a0, a1, a2, a3] (aR 8 120 :: r) σ := ev_go f_Dk_pass_1 rfl
theorem f_Dk_pass_4 : fetch 15 4 = some (.iconst 0) := by decide +kernel
theorem e_Dk_pass_4 (a0 a1 a2 a3 : AV) (σ : aM) (r : List AV)  : ev 15 4 [a0, a1, a2, a3] (r) σ = ev 15 5 [a0, a1, a2, a3] (aI 0 :: r) σ := ev_go f_Dk_pass_4 rfl
theorem f_Dk_pass_5 : fetch 15 5 = some (.iload_n 1) := by decide +kernel
theorem e_Dk_pass_5 (a0 a2 a3 : AV) (σ : aM) (l1 : Int) (r : List AV)  : ev 15 5 [a0, aI l1, a2, a3] (r) σ = ev 15 6 [a0, aI l1, a2, a3] (aI l1 :: r) σ := ev_go f_Dk_pass_5 rfl
theorem f_Dk_pass_6 : fetch 15 6 = some (.iload_n 2) := by decide +kernel
theorem e_Dk_pass_6 (a0 a1 a3 : AV) (σ : aM) (l2 : Int) (r : List AV)  : ev 15 6 [a0, a1, aI l2, a3] (r) σ = ev 15 7 [a0, a1, aI l2, a3] (aI l2 :: r) σ := ev_go f_Dk_pass_6 rfl
theorem f_Dk_pass_7 : fetch 15 7 = some (.iload_n 3) := by decide +kernel
theorem e_Dk_pass_7 (a0 a1 a2 : AV) (σ : aM) (l3 : Int) (r : List AV)  : ev 15 7 [a0, a1, a2, aI l3] (r) σ = ev 15 8 [a0, a1, a2, aI l3] (aI l3 :: r) σ := ev_go f_Dk_pass_7 rfl
theorem f_Dk_pass_8 : fetch 15 8 = some (.iconst 0) := by decide +kernel
theorem e_Dk_pass_8 (a0 a1 a2 a3 : AV) (σ : aM) (r : List AV)  : ev 15 8 [a0, a1, a2, a3] (r) σ = ev 15 9 [a0, a1, a2, a3] (aI 0 :: r) σ := ev_go f_Dk_pass_8 rfl
theorem f_Dk_pass_9 : fetch 15 9 = some (.iconst 0) := by decide +kernel
theorem e_Dk_pass_9 (a0 a1 a2 a3 : AV) (σ : aM) (r : List AV)  : ev 15 9 [a0, a1, a2, a3] (r) σ = ev 15 10 [a0, a1, a2, a3] (aI 0 :: r) σ := ev_go f_Dk_pass_9 rfl
theorem f_Dk_pass_10 : fetch 15 10 = some (.invokevirtual 35) := by decide +kernel
theorem e_Dk_pass_10 (a0 a1 a2 a3 : AV) (σ : aM) (s0 : Int) (s1 : Int) (s2 : Int) (s3 : Int) (s4 : Int) (s5 : Int) (s6 : Int) : ev 15 10 [a0, a1, a2, a3] [aI s6, aI s5, aI s4, aI s3, aI s2, aI s1, aR 8 s0] σ = evK 15 13 [a0, a1, a2, a3] [] (ev 34 0 [aR 8 s0, aI s1, aI s2, aI s3, aI s4, aI s5, aI s6] [] σ) := ev_call f_Dk_pass_10 rfl rfl
theorem f_Dk_pass_13 : fetch 15 13 = some (.aload_n 0) := by decide +kernel
theorem e_Dk_pass_13 (a1 a2 a3 : AV) (σ : aM) (l0 : Option (Nat × Int)) (r : List AV)  : ev 15 13 [aQ l0, a1, a2, a3] (r) σ = ev 15 14 [aQ l0, a1, a2, a3] (aQ l0 :: r) σ := ev_go f_Dk_pass_13 rfl
theorem f_Dk_pass_14 : fetch 15 14 = some (.aload_n 0) := by decide +kernel
theorem e_Dk_pass_14 (a1 a2 a3 : AV) (σ : aM) (l0 : Option (Nat × Int)) (r : List AV)  : ev 15 14 [aQ l0, a1, a2, a3] (r) σ = ev 15 15 [aQ l0, a1, a2, a3] (aQ l0 :: r) σ := ev_go f_Dk_pass_14 rfl
theorem f_Dk_pass_15 : fetch 15 15 = some (.getfield 23) := by decide +kernel
theorem e_Dk_pass_15 (a0 a1 a2 a3 : AV) (σ : aM) (i : Int) (r : List AV)  : ev 15 15 [a0, a1, a2, a3] (aR 5 i :: r) σ = ev 15 18 [a0, a1, a2, a3] (aR 8 120 :: r) σ := ev_go f_Dk_pass_15 rfl
theorem f_Dk_pass_18 : fetch 15 18 = some (.iload_n 2) := by decide +kernel
theorem e_Dk_pass_18 (a0 a1 a3 : AV) (σ : aM) (l2 : Int) (r : List AV)  : ev 15 18 [a0, a1, aI l2, a3] (r) σ = ev 15 19 [a0, a1, aI l2, a3] (aI l2 :: r) σ := ev_go f_Dk_pass_18 rfl
theorem f_Dk_pass_19 : fetch 15 19 = some (.invokestatic 59) := by decide +kernel
theorem e_Dk_pass_19 (a0 a1 a2 a3 : AV) (σ : aM) (s0 : Option (Nat × Int)) (s1 : Option (Nat × Int)) (s2 : Int) : ev 15 19 [a0, a1, a2, a3] [aI s2, aQ s1, aQ s0] σ = evK 15 22 [a0, a1, a2, a3] [aQ s1, aQ s0] (ev 20 0 [aI s2] [] σ) := ev_call f_Dk_pass_19 rfl rfl
theorem f_Dk_pass_22 : fetch 15 22 = some (.invokevirtual 63) := by decide +kernel
theorem e_Dk_pass_22 (a0 a1 a2 a3 : AV) (σ : aM) (s0 : Int) (s1 : Option (Nat × Int)) (s2 : Int) : ev 15 22 [a0, a1, a2, a3] [aI s2, aQ s1, aR 5 s0] σ = evK 15 25 [a0, a1, a2, a3] [] (ev 24 0 [aR 5 s0, aQ s1, aI s2, aU, aU, aU] [] σ) := ev_call f_Dk_pass_22 rfl rfl
theorem f_Dk_pass_25 : fetch 15 25 = some (.aload_n 0) := by decide +kernel
theorem e_Dk_pass_25 (a1 a2 a3 : AV) (σ : aM) (l0 : Option (Nat × Int)) (r : List AV)  : ev 15 25 [aQ l0, a1, a2, a3] (r) σ = ev 15 26 [aQ l0, a1, a2, a3] (aQ l0 :: r) σ := ev_go f_Dk_pass_25 rfl
theorem f_Dk_pass_26 : fetch 15 26 = some (.invokevirtual 53) := by decide +kernel
theorem e_Dk_pass_26 (a0 a1 a2 a3 : AV) (σ : aM) (s0 : Int) : ev 15 26 [a0, a1, a2, a3] [aR 5 s0] σ = evK 15 29 [a0, a1, a2, a3] [] (ev 30 0 [aR 5 s0, aU, aU] [] σ) := ev_call f_Dk_pass_26 rfl rfl
theorem f_Dk_pass_29 : fetch 15 29 = some (.aload_n 0) := by decide +kernel
theorem e_Dk_pass_29 (a1 a2 a3 : AV) (σ : aM) (l0 : Option (Nat × Int)) (r : List AV)  : ev 15 29 [aQ l0, a1, a2, a3] (r) σ = ev 15 30 [aQ l0, a1, a2, a3] (aQ l0 :: r) σ := ev_go f_Dk_pass_29 rfl
theorem f_Dk_pass_30 : fetch 15 30 = some (.getfield 23) := by decide +kernel
theorem e_Dk_pass_30 (a0 a1 a2 a3 : AV) (σ : aM) (i : Int) (r : List AV)  : ev 15 30 [a0, a1, a2, a3] (aR 5 i :: r) σ = ev 15 33 [a0, a1, a2, a3] (aR 8 120 :: r) σ := ev_go f_Dk_pass_30 rfl
theorem f_Dk_pass_33 : fetch 15 33 = some (.getfield 66) := by decide +kernel
theorem e_Dk_pass_33 (a0 a1 a2 a3 : AV) (σ : aM) (i : Int) (r : List AV)  : ev 15 33 [a0, a1, a2, a3] (aR 8 i :: r) σ = ev 15 36 [a0, a1, a2, a3] (aI (gI σ 8 i 6) :: r) σ := ev_go f_Dk_pass_33 rfl
theorem f_Dk_pass_36 : fetch 15 36 = some (.ireturn) := by decide +kernel
theorem e_Dk_pass_36 (a0 a1 a2 a3 : AV) (σ : aM) (x : Int) : ev 15 36 [a0, a1, a2, a3] [aI x] σ = some ((some (aI x)), σ) := ev_ret f_Dk_pass_36 rfl
theorem f_Dk_alter_0 : fetch 16 0 = some (.aload_n 1) := by decide +kernel
theorem e_Dk_alter_0 (a0 a2 a3 : AV) (σ : aM) (l1 : Option (Nat × Int)) (r : List AV)  : ev 16 0 [a0, aQ l1, a2, a3] (r) σ = ev 16 1 [a0, aQ l1, a2, a3] (aQ l1 :: r) σ := ev_go f_Dk_alter_0 rfl
theorem f_Dk_alter_1 : fetch 16 1 = some (.getfield 69) := by decide +kernel
theorem e_Dk_alter_1 (a0 a1 a2 a3 : AV) (σ : aM) (i : Int) (r : List AV)  : ev 16 1 [a0, a1, a2, a3] (aR 8 i :: r) σ = ev 16 4 [a0, a1, a2, a3] (aI (gI σ 8 i 1) :: r) σ := ev_go f_Dk_alter_1 rfl
theorem f_Dk_alter_4 : fetch 16 4 = some (.iconst 4) := by decide +kernel
theorem e_Dk_alter_4 (a0 a1 a2 a3 : AV) (σ : aM) (r : List AV)  : ev 16 4 [a0, a1, a2, a3] (r) σ = ev 16 5 [a0, a1, a2, a3] (aI 4 :: r) σ := ev_go f_Dk_alter_4 rfl
theorem f_Dk_alter_5 : fetch 16 5 = some (.if_icmp .ne 16) := by decide +kernel
theorem e_Dk_alter_5 (a0 a1 a2 a3 : AV) (σ : aM) (x z : Int) (r : List AV) : ev 16 5 [a0, a1, a2, a3] (aI z :: aI x :: r) σ = if ¬ x = z then ev 16 21 [a0, a1, a2, a3] r σ else ev 16 8 [a0, a1, a2, a3] r σ := ev_br f_Dk_alter_5 rfl bc_ne
theorem f_Dk_alter_8 : fetch 16 8 = some (.aload_n 1) := by decide +kernel
theorem e_Dk_alter_8 (a0 a2 a3 : AV) (σ : aM) (l1 : Option (Nat × Int)) (r : List AV)  : ev 16 8 [a0, aQ l1, a2, a3] (r) σ = ev 16 9 [a0, aQ l1, a2, a3] (aQ l1 :: r) σ := ev_go f_Dk_alter_8 rfl
theorem f_Dk_alter_9 : fetch 16 9 = some (.iload_n 2) := by decide +kernel
theorem e_Dk_alter_9 (a0 a1 a3 : AV) (σ : aM) (l2 : Int) (r : List AV)  : ev 16 9 [a0, a1, aI l2, a3] (r) σ = ev 16 10 [a0, a1, aI l2, a3] (aI l2 :: r) σ := ev_go f_Dk_alter_9 rfl
theorem f_Dk_alter_10 : fetch 16 10 = some (.putfield 72) := by decide +kernel
theorem e_Dk_alter_10 (a0 a1 a2 a3 : AV) (σ : aM) (i : Int) (x : Int) (r : List AV)  : ev 16 10 [a0, a1, a2, a3] (aI x :: aR 8 i :: r) σ = ev 16 13 [a0, a1, a2, a3] (r) (uI σ 8 i 4 x) := ev_go f_Dk_alter_10 rfl
theorem f_Dk_alter_13 : fetch 16 13 = some (.aload_n 1) := by decide +kernel
theorem e_Dk_alter_13 (a0 a2 a3 : AV) (σ : aM) (l1 : Option (Nat × Int)) (r : List AV)  : ev 16 13 [a0, aQ l1, a2, a3] (r) σ = ev 16 14 [a0, aQ l1, a2, a3] (aQ l1 :: r) σ := ev_go f_Dk_alter_13 rfl
theorem f_Dk_alter_14 : fetch 16 14 = some (.iload_n 3) := by decide +kernel
theorem e_Dk_alter_14 (a0 a1 a2 : AV) (σ : aM) (l3 : Int) (r : List AV)  : ev 16 14 [a0, a1, a2, aI l3] (r) σ = ev 16 15 [a0, a1, a2, aI l3] (aI l3 :: r) σ := ev_go f_Dk_alter_14 rfl
theorem f_Dk_alter_15 : fetch 16 15 = some (.putfield 75) := by decide +kernel
theorem e_Dk_alter_15 (a0 a1 a2 a3 : AV) (σ : aM) (i : Int) (x : Int) (r : List AV)  : ev 16 15 [a0, a1, a2, a3] (aI x :: aR 8 i :: r) σ = ev 16 18 [a0, a1, a2, a3] (r) (uI σ 8 i 7 x) := ev_go f_Dk_alter_15 rfl
theorem f_Dk_alter_18 : fetch 16 18 = some (.goto 47) := by decide +kernel
theorem e_Dk_alter_18 (a0 a1 a2 a3 : AV) (σ : aM) (r : List AV)  : ev 16 18 [a0, a1, a2, a3] (r) σ = ev 16 65 [a0, a1, a2, a3] (r) σ := ev_go f_Dk_alter_18 rfl
theorem f_Dk_alter_21 : fetch 16 21 = some (.iload_n 3) := by decide +kernel
theorem e_Dk_alter_21 (a0 a1 a2 : AV) (σ : aM) (l3 : Int) (r : List AV)  : ev 16 21 [a0, a1, a2, aI l3] (r) σ = ev 16 22 [a0, a1, a2, aI l3] (aI l3 :: r) σ := ev_go f_Dk_alter_21 rfl
theorem f_Dk_alter_22 : fetch 16 22 = some (.aload_n 1) := by decide +kernel
theorem e_Dk_alter_22 (a0 a2 a3 : AV) (σ : aM) (l1 : Option (Nat × Int)) (r : List AV)  : ev 16 22 [a0, aQ l1, a2, a3] (r) σ = ev 16 23 [a0, aQ l1, a2, a3] (aQ l1 :: r) σ := ev_go f_Dk_alter_22 rfl
theorem f_Dk_alter_23 : fetch 16 23 = some (.getfield 75) := by decide +kernel
theorem e_Dk_alter_23 (a0 a1 a2 a3 : AV) (σ : aM) (i : Int) (r : List AV)  : ev 16 23 [a0, a1, a2, a3] (aR 8 i :: r) σ = ev 16 26 [a0, a1, a2, a3] (aI (gI σ 8 i 7) :: r) σ := ev_go f_Dk_alter_23 rfl
theorem f_Dk_alter_26 : fetch 16 26 = some (.if_icmp .ne 19) := by decide +kernel
theorem e_Dk_alter_26 (a0 a1 a2 a3 : AV) (σ : aM) (x z : Int) (r : List AV) : ev 16 26 [a0, a1, a2, a3] (aI z :: aI x :: r) σ = if ¬ x = z then ev 16 45 [a0, a1, a2, a3] r σ else ev 16 29 [a0, a1, a2, a3] r σ := ev_br f_Dk_alter_26 rfl bc_ne
theorem f_Dk_alter_29 : fetch 16 29 = some (.iload_n 2) := by decide +kernel
theorem e_Dk_alter_29 (a0 a1 a3 : AV) (σ : aM) (l2 : Int) (r : List AV)  : ev 16 29 [a0, a1, aI l2, a3] (r) σ = ev 16 30 [a0, a1, aI l2, a3] (aI l2 :: r) σ := ev_go f_Dk_alter_29 rfl
theorem f_Dk_alter_30 : fetch 16 30 = some (.aload_n 1) := by decide +kernel
theorem e_Dk_alter_30 (a0 a2 a3 : AV) (σ : aM) (l1 : Option (Nat × Int)) (r : List AV)  : ev 16 30 [a0, aQ l1, a2, a3] (r) σ = ev 16 31 [a0, aQ l1, a2, a3] (aQ l1 :: r) σ := ev_go f_Dk_alter_30 rfl
theorem f_Dk_alter_31 : fetch 16 31 = some (.getfield 72) := by decide +kernel
theorem e_Dk_alter_31 (a0 a1 a2 a3 : AV) (σ : aM) (i : Int) (r : List AV)  : ev 16 31 [a0, a1, a2, a3] (aR 8 i :: r) σ = ev 16 34 [a0, a1, a2, a3] (aI (gI σ 8 i 4) :: r) σ := ev_go f_Dk_alter_31 rfl
theorem f_Dk_alter_34 : fetch 16 34 = some (.if_icmp .gt 11) := by decide +kernel
theorem e_Dk_alter_34 (a0 a1 a2 a3 : AV) (σ : aM) (x z : Int) (r : List AV) : ev 16 34 [a0, a1, a2, a3] (aI z :: aI x :: r) σ = if z < x then ev 16 45 [a0, a1, a2, a3] r σ else ev 16 37 [a0, a1, a2, a3] r σ := ev_br f_Dk_alter_34 rfl bc_gt
theorem f_Dk_alter_37 : fetch 16 37 = some (.aload_n 1) := by decide +kernel
theorem e_Dk_alter_37 (a0 a2 a3 : AV) (σ : aM) (l1 : Option (Nat × Int)) (r : List AV)  : ev 16 37 [a0, aQ l1, a2, a3] (r) σ = ev 16 38 [a0, aQ l1, a2, a3] (aQ l1 :: r) σ := ev_go f_Dk_alter_37 rfl
theorem f_Dk_alter_38 : fetch 16 38 = some (.iload_n 2) := by decide +kernel
theorem e_Dk_alter_38 (a0 a1 a3 : AV) (σ : aM) (l2 : Int) (r : List AV)  : ev 16 38 [a0, a1, aI l2, a3] (r) σ = ev 16 39 [a0, a1, aI l2, a3] (aI l2 :: r) σ := ev_go f_Dk_alter_38 rfl
theorem f_Dk_alter_39 : fetch 16 39 = some (.invokevirtual 78) := by decide +kernel
theorem e_Dk_alter_39 (a0 a1 a2 a3 : AV) (σ : aM) (s0 : Int) (s1 : Int) : ev 16 39 [a0, a1, a2, a3] [aI s1, aR 8 s0] σ = evK 16 42 [a0, a1, a2, a3] [] (ev 43 0 [aR 8 s0, aI s1] [] σ) := ev_call f_Dk_alter_39 rfl rfl
theorem f_Dk_alter_42 : fetch 16 42 = some (.goto 23) := by decide +kernel
theorem e_Dk_alter_42 (a0 a1 a2 a3 : AV) (σ : aM) (r : List AV)  : ev 16 42 [a0, a1, a2, a3] (r) σ = ev 16 65 [a0, a1, a2, a3] (r) σ := ev_go f_Dk_alter_42 rfl
theorem f_Dk_alter_45 : fetch 16 45 = some (.aload_n 1) := by decide +kernel
theorem e_Dk_alter_45 (a0 a2 a3 : AV) (σ : aM) (l1 : Option (Nat × Int)) (r : List AV)  : ev 16 45 [a0, aQ l1, a2, a3] (r) σ = ev 16 46 [a0, aQ l1, a2, a3] (aQ l1 :: r) σ := ev_go f_Dk_alter_45 rfl
theorem f_Dk_alter_46 : fetch 16 46 = some (.iload_n 2) := by decide +kernel
theorem e_Dk_alter_46 (a0 a1 a3 : AV) (σ : aM) (l2 : Int) (r : List AV)  : ev 16 46 [a0, a1, aI l2, a3] (r) σ = ev 16 47 [a0, a1, aI l2, a3] (aI l2 :: r) σ := ev_go f_Dk_alter_46 rfl
theorem f_Dk_alter_47 : fetch 16 47 = some (.putfield 72) := by decide +kernel
theorem e_Dk_alter_47 (a0 a1 a2 a3 : AV) (σ : aM) (i : Int) (x : Int) (r : List AV)  : ev 16 47 [a0, a1, a2, a3] (aI x :: aR 8 i :: r) σ = ev 16 50 [a0, a1, a2, a3] (r) (uI σ 8 i 4 x) := ev_go f_Dk_alter_47 rfl
theorem f_Dk_alter_50 : fetch 16 50 = some (.aload_n 1) := by decide +kernel
theorem e_Dk_alter_50 (a0 a2 a3 : AV) (σ : aM) (l1 : Option (Nat × Int)) (r : List AV)  : ev 16 50 [a0, aQ l1, a2, a3] (r) σ = ev 16 51 [a0, aQ l1, a2, a3] (aQ l1 :: r) σ := ev_go f_Dk_alter_50 rfl
theorem f_Dk_alter_51 : fetch 16 51 = some (.iload_n 3) := by decide +kernel
theorem e_Dk_alter_51 (a0 a1 a2 : AV) (σ : aM) (l3 : Int) (r : List AV)  : ev 16 51 [a0, a1, a2, aI l3] (r) σ = ev 16 52 [a0, a1, a2, aI l3] (aI l3 :: r) σ := ev_go f_Dk_alter_51 rfl
theorem f_Dk_alter_52 : fetch 16 52 = some (.putfield 75) := by decide +kernel
theorem e_Dk_alter_52 (a0 a1 a2 a3 : AV) (σ : aM) (i : Int) (x : Int) (r : List AV)  : ev 16 52 [a0, a1, a2, a3] (aI x :: aR 8 i :: r) σ = ev 16 55 [a0, a1, a2, a3] (r) (uI σ 8 i 7 x) := ev_go f_Dk_alter_52 rfl
theorem f_Dk_alter_55 : fetch 16 55 = some (.aload_n 1) := by decide +kernel
theorem e_Dk_alter_55 (a0 a2 a3 : AV) (σ : aM) (l1 : Option (Nat × Int)) (r : List AV)  : ev 16 55 [a0, aQ l1, a2, a3] (r) σ = ev 16 56 [a0, aQ l1, a2, a3] (aQ l1 :: r) σ := ev_go f_Dk_alter_55 rfl
theorem f_Dk_alter_56 : fetch 16 56 = some (.iconst 4) := by decide +kernel
theorem e_Dk_alter_56 (a0 a1 a2 a3 : AV) (σ : aM) (r : List AV)  : ev 16 56 [a0, a1, a2, a3] (r) σ = ev 16 57 [a0, a1, a2, a3] (aI 4 :: r) σ := ev_go f_Dk_alter_56 rfl
theorem f_Dk_alter_57 : fetch 16 57 = some (.putfield 39) := by decide +kernel
theorem e_Dk_alter_57 (a0 a1 a2 a3 : AV) (σ : aM) (i : Int) (x : Int) (r : List AV)  : ev 16 57 [a0, a1, a2, a3] (aI x :: aR 8 i :: r) σ = ev 16 60 [a0, a1, a2, a3] (r) (uI σ 8 i 5 x) := ev_go f_Dk_alter_57 rfl
theorem f_Dk_alter_60 : fetch 16 60 = some (.aload_n 0) := by decide +kernel
theorem e_Dk_alter_60 (a1 a2 a3 : AV) (σ : aM) (l0 : Option (Nat × Int)) (r : List AV)  : ev 16 60 [aQ l0, a1, a2, a3] (r) σ = ev 16 61 [aQ l0, a1, a2, a3] (aQ l0 :: r) σ := ev_go f_Dk_alter_60 rfl
theorem f_Dk_alter_61 : fetch 16 61 = some (.aload_n 1) := by decide +kernel
theorem e_Dk_alter_61 (a0 a2 a3 : AV) (σ : aM) (l1 : Option (Nat × Int)) (r : List AV)  : ev 16 61 [a0, aQ l1, a2, a3] (r) σ = ev 16 62 [a0, aQ l1, a2, a3] (aQ l1 :: r) σ := ev_go f_Dk_alter_61 rfl
theorem f_Dk_alter_62 : fetch 16 62 = some (.invokevirtual 46) := by decide +kernel
theorem e_Dk_alter_62 (a0 a1 a2 a3 : AV) (σ : aM) (s0 : Int) (s1 : Option (Nat × Int)) : ev 16 62 [a0, a1, a2, a3] [aQ s1, aR 5 s0] σ = evK 16 65 [a0, a1, a2, a3] [] (ev 18 0 [aR 5 s0, aQ s1] [] σ) := ev_call f_Dk_alter_62 rfl rfl
theorem f_Dk_alter_65 : fetch 16 65 = some (.aload_n 0) := by decide +kernel
theorem e_Dk_alter_65 (a1 a2 a3 : AV) (σ : aM) (l0 : Option (Nat × Int)) (r : List AV)  : ev 16 65 [aQ l0, a1, a2, a3] (r) σ = ev 16 66 [aQ l0, a1, a2, a3] (aQ l0 :: r) σ := ev_go f_Dk_alter_65 rfl
theorem f_Dk_alter_66 : fetch 16 66 = some (.invokevirtual 53) := by decide +kernel
theorem e_Dk_alter_66 (a0 a1 a2 a3 : AV) (σ : aM) (s0 : Int) : ev 16 66 [a0, a1, a2, a3] [aR 5 s0] σ = evK 16 69 [a0, a1, a2, a3] [] (ev 30 0 [aR 5 s0, aU, aU] [] σ) := ev_call f_Dk_alter_66 rfl rfl
theorem f_Dk_alter_69 : fetch 16 69 = some (.return_) := by decide +kernel
theorem e_Dk_alter_69 (a0 a1 a2 a3 : AV) (σ : aM)  : ev 16 69 [a0, a1, a2, a3] [] σ = some (none, σ) := ev_ret f_Dk_alter_69 rfl
theorem f_Dk_open_0 : fetch 17 0 = some (.iload_n 2) := by decide +kernel
theorem e_Dk_open_0 (a0 a1 a3 a4 a5 a6 a7 : AV) (σ : aM) (l2 : Int) (r : List AV)  : ev 17 0 [a0, a1, aI l2, a3, a4, a5, a6, a7] (r) σ = ev 17 1 [a0, a1, aI l2, a3, a4, a5, a6, a7] (aI l2 :: r) σ := ev_go f_Dk_open_0 rfl
theorem f_Dk_open_1 : fetch 17 1 = some (.istore_n 3) := by decide +kernel
theorem e_Dk_open_1 (a0 a1 a3 a4 a5 a6 a7 : AV) (σ : aM) (x : Int) (l2 : Int) (r : List AV)  : ev 17 1 [a0, a1, aI l2, a3, a4, a5, a6, a7] (aI x :: r) σ = ev 17 2 [a0, a1, aI l2, aI x, a4, a5, a6, a7] (r) σ := ev_go f_Dk_open_1 rfl
theorem f_Dk_open_2 : fetch 17 2 = some (.iconst 0) := by decide +kernel
theorem e_Dk_open_2 (a0 a1 a2 a3 a4 a5 a6 a7 : AV) (σ : aM) (r : List AV)  : ev 17 2 [a0, a1, a2, a3, a4, a5, a6, a7] (r) σ = ev 17 3 [a0, a1, a2, a3, a4, a5, a6, a7] (aI 0 :: r) σ := ev_go f_Dk_open_2 rfl
theorem f_Dk_open_3 : fetch 17 3 = some (.istore 4) := by decide +kernel
theorem e_Dk_open_3 (a0 a1 a2 a4 a5 a6 a7 : AV) (σ : aM) (x : Int) (l3 : Int) (r : List AV)  : ev 17 3 [a0, a1, a2, aI l3, a4, a5, a6, a7] (aI x :: r) σ = ev 17 5 [a0, a1, a2, aI l3, aI x, a5, a6, a7] (r) σ := ev_go f_Dk_open_3 rfl
theorem f_Dk_open_5 : fetch 17 5 = some (.iload 4) := by decide +kernel
theorem e_Dk_open_5 (a0 a1 a2 a3 a5 a6 a7 : AV) (σ : aM) (l4 : Int) (r : List AV)  : ev 17 5 [a0, a1, a2, a3, aI l4, a5, a6, a7] (r) σ = ev 17 7 [a0, a1, a2, a3, aI l4, a5, a6, a7] (aI l4 :: r) σ := ev_go f_Dk_open_5 rfl
theorem f_Dk_open_7 : fetch 17 7 = some (.bipush 60) := by decide +kernel
theorem e_Dk_open_7 (a0 a1 a2 a3 a4 a5 a6 a7 : AV) (σ : aM) (r : List AV)  : ev 17 7 [a0, a1, a2, a3, a4, a5, a6, a7] (r) σ = ev 17 9 [a0, a1, a2, a3, a4, a5, a6, a7] (aI 60 :: r) σ := ev_go f_Dk_open_7 rfl
theorem f_Dk_open_9 : fetch 17 9 = some (.if_icmp .ge 91) := by decide +kernel
theorem e_Dk_open_9 (a0 a1 a2 a3 a4 a5 a6 a7 : AV) (σ : aM) (x z : Int) (r : List AV) : ev 17 9 [a0, a1, a2, a3, a4, a5, a6, a7] (aI z :: aI x :: r) σ = if z ≤ x then ev 17 100 [a0, a1, a2, a3, a4, a5, a6, a7] r σ else ev 17 12 [a0, a1, a2, a3, a4, a5, a6, a7] r σ := ev_br f_Dk_open_9 rfl bc_ge
theorem f_Dk_open_12 : fetch 17 12 = some (.iload_n 3) := by decide +kernel
theorem e_Dk_open_12 (a0 a1 a2 a4 a5 a6 a7 : AV) (σ : aM) (l3 : Int) (r : List AV)  : ev 17 12 [a0, a1, a2, aI l3, a4, a5, a6, a7] (r) σ = ev 17 13 [a0, a1, a2, aI l3, a4, a5, a6, a7] (aI l3 :: r) σ := ev_go f_Dk_open_12 rfl
theorem f_Dk_open_13 : fetch 17 13 = some (.ifCond .le 87) := by decide +kernel
theorem e_Dk_open_13 (a0 a1 a2 a3 a4 a5 a6 a7 : AV) (σ : aM) (x : Int) (r : List AV) : ev 17 13 [a0, a1, a2, a3, a4, a5, a6, a7] (aI x :: r) σ = if x ≤ 0 then ev 17 100 [a0, a1, a2, a3, a4, a5, a6, a7] r σ else ev 17 16 [a0, a1, a2, a3, a4, a5, a6, a7] r σ := ev_br f_Dk_open_13 rfl bc_le
theorem f_Dk_open_16 : fetch 17 16 = some (.aload_n 0) := by decide +kernel
theorem e_Dk_open_16 (a1 a2 a3 a4 a5 a6 a7 : AV) (σ : aM) (l0 : Option (Nat × Int)) (r : List AV)  : ev 17 16 [aQ l0, a1, a2, a3, a4, a5, a6, a7] (r) σ = ev 17 17 [aQ l0, a1, a2, a3, a4, a5, a6, a7] (aQ l0 :: r) σ := ev_go f_Dk_open_16 rfl
theorem f_Dk_open_17 : fetch 17 17 = some (.getfield 12) := by decide +kernel
theorem e_Dk_open_17 (a0 a1 a2 a3 a4 a5 a6 a7 : AV) (σ : aM) (i : Int) (r : List AV)  : ev 17 17 [a0, a1, a2, a3, a4, a5, a6, a7] (aR 5 i :: r) σ = ev 17 20 [a0, a1, a2, a3, a4, a5, a6, a7] (aR 6 0 :: r) σ := ev_go f_Dk_open_17 rfl
theorem f_Dk_open_20 : fetch 17 20 = some (.iconst 0) := by decide +kernel
theorem e_Dk_open_20 (a0 a1 a2 a3 a4 a5 a6 a7 : AV) (σ : aM) (r : List AV)  : ev 17 20 [a0, a1, a2, a3, a4, a5, a6, a7] (r) σ = ev 17 21 [a0, a1, a2, a3, a4, a5, a6, a7] (aI 0 :: r) σ := ev_go f_Dk_open_20 rfl
theorem f_Dk_open_21 : fetch 17 21 = some (.invokevirtual 81) := by decide +kernel
theorem e_Dk_open_21 (a0 a1 a2 a3 a4 a5 a6 a7 : AV) (σ : aM) (s0 : Int) (s1 : Int) : ev 17 21 [a0, a1, a2, a3, a4, a5, a6, a7] [aI s1, aR 6 s0] σ = evK 17 24 [a0, a1, a2, a3, a4, a5, a6, a7] [] (ev 8 0 [aR 6 s0, aI s1, aU, aU, aU] [] σ) := ev_call f_Dk_open_21 rfl rfl
theorem f_Dk_open_24 : fetch 17 24 = some (.astore 5) := by decide +kernel
theorem e_Dk_open_24 (a0 a1 a2 a3 a5 a6 a7 : AV) (σ : aM) (q : Option (Nat × Int)) (l4 : Int) (r : List AV)  : ev 17 24 [a0, a1, a2, a3, aI l4, a5, a6, a7] (aQ q :: r) σ = ev 17 26 [a0, a1, a2, a3, aI l4, aQ q, a6, a7] (r) σ := ev_go f_Dk_open_24 rfl
theorem f_Dk_open_26 : fetch 17 26 = some (.aload_n 0) := by decide +kernel
theorem e_Dk_open_26 (a1 a2 a3 a4 a5 a6 a7 : AV) (σ : aM) (l0 : Option (Nat × Int)) (r : List AV)  : ev 17 26 [aQ l0, a1, a2, a3, a4, a5, a6, a7] (r) σ = ev 17 27 [aQ l0, a1, a2, a3, a4, a5, a6, a7] (aQ l0 :: r) σ := ev_go f_Dk_open_26 rfl
theorem f_Dk_open_27 : fetch 17 27 = some (.getfield 12) := by decide +kernel
theorem e_Dk_open_27 (a0 a1 a2 a3 a4 a5 a6 a7 : AV) (σ : aM) (i : Int) (r : List AV)  : ev 17 27 [a0, a1, a2, a3, a4, a5, a6, a7] (aR 5 i :: r) σ = ev 17 30 [a0, a1, a2, a3, a4, a5, a6, a7] (aR 6 0 :: r) σ := ev_go f_Dk_open_27 rfl
theorem f_Dk_open_30 : fetch 17 30 = some (.iconst 1) := by decide +kernel
theorem e_Dk_open_30 (a0 a1 a2 a3 a4 a5 a6 a7 : AV) (σ : aM) (r : List AV)  : ev 17 30 [a0, a1, a2, a3, a4, a5, a6, a7] (r) σ = ev 17 31 [a0, a1, a2, a3, a4, a5, a6, a7] (aI 1 :: r) σ := ev_go f_Dk_open_30 rfl
theorem f_Dk_open_31 : fetch 17 31 = some (.invokevirtual 81) := by decide +kernel
theorem e_Dk_open_31 (a0 a1 a2 a3 a4 a5 a6 a7 : AV) (σ : aM) (s0 : Int) (s1 : Int) : ev 17 31 [a0, a1, a2, a3, a4, a5, a6, a7] [aI s1, aR 6 s0] σ = evK 17 34 [a0, a1, a2, a3, a4, a5, a6, a7] [] (ev 8 0 [aR 6 s0, aI s1, aU, aU, aU] [] σ) := ev_call f_Dk_open_31 rfl rfl
theorem f_Dk_open_34 : fetch 17 34 = some (.astore 6) := by decide +kernel
theorem e_Dk_open_34 (a0 a1 a2 a3 a4 a6 a7 : AV) (σ : aM) (q : Option (Nat × Int)) (l5 : Option (Nat × Int)) (r : List AV)  : ev 17 34 [a0, a1, a2, a3, a4, aQ l5, a6, a7] (aQ q :: r) σ = ev 17 36 [a0, a1, a2, a3, a4, aQ l5, aQ q, a7] (r) σ := ev_go f_Dk_open_34 rfl
theorem f_Dk_open_36 : fetch 17 36 = some (.aload 5) := by decide +kernel
theorem e_Dk_open_36 (a0 a1 a2 a3 a4 a6 a7 : AV) (σ : aM) (l5 : Option (Nat × Int)) (r : List AV)  : ev 17 36 [a0, a1, a2, a3, a4, aQ l5, a6, a7] (r) σ = ev 17 38 [a0, a1, a2, a3, a4, aQ l5, a6, a7] (aQ l5 :: r) σ := ev_go f_Dk_open_36 rfl
theorem f_Dk_open_38 : fetch 17 38 = some (.ifnull 62) := by decide +kernel
theorem e_Dk_open_38 (a0 a1 a2 a3 a4 a5 a6 a7 : AV) (σ : aM) (q : Option (Nat × Int)) (r : List AV) : ev 17 38 [a0, a1, a2, a3, a4, a5, a6, a7] (aQ q :: r) σ = if q = none then ev 17 100 [a0, a1, a2, a3, a4, a5, a6, a7] r σ else ev 17 41 [a0, a1, a2, a3, a4, a5, a6, a7] r σ := ev_br f_Dk_open_38 rfl bc_non
theorem f_Dk_open_41 : fetch 17 41 = some (.aload 6) := by decide +kernel
theorem e_Dk_open_41 (a0 a1 a2 a3 a4 a5 a7 : AV) (σ : aM) (l6 : Option (Nat × Int)) (r : List AV)  : ev 17 41 [a0, a1, a2, a3, a4, a5, aQ l6, a7] (r) σ = ev 17 43 [a0, a1, a2, a3, a4, a5, aQ l6, a7] (aQ l6 :: r) σ := ev_go f_Dk_open_41 rfl
theorem f_Dk_open_43 : fetch 17 43 = some (.ifnonnull 6) := by decide +kernel
theorem e_Dk_open_43 (a0 a1 a2 a3 a4 a5 a6 a7 : AV) (σ : aM) (q : Option (Nat × Int)) (r : List AV) : ev 17 43 [a0, a1, a2, a3, a4, a5, a6, a7] (aQ q :: r) σ = if ¬ q = none then ev 17 49 [a0, a1, a2, a3, a4, a5, a6, a7] r σ else ev 17 46 [a0, a1, a2, a3, a4, a5, a6, a7] r σ := ev_br f_Dk_open_43 rfl bc_som
theorem f_Dk_open_46 : fetch 17 46 = some (.goto 54) := by decide +kernel
theorem e_Dk_open_46 (a0 a1 a2 a3 a4 a5 a6 a7 : AV) (σ : aM) (r : List AV)  : ev 17 46 [a0, a1, a2, a3, a4, a5, a6, a7] (r) σ = ev 17 100 [a0, a1, a2, a3, a4, a5, a6, a7] (r) σ := ev_go f_Dk_open_46 rfl
theorem f_Dk_open_49 : fetch 17 49 = some (.iload_n 3) := by decide +kernel
theorem e_Dk_open_49 (a0 a1 a2 a4 a5 a6 a7 : AV) (σ : aM) (l3 : Int) (r : List AV)  : ev 17 49 [a0, a1, a2, aI l3, a4, a5, a6, a7] (r) σ = ev 17 50 [a0, a1, a2, aI l3, a4, a5, a6, a7] (aI l3 :: r) σ := ev_go f_Dk_open_49 rfl
theorem f_Dk_open_50 : fetch 17 50 = some (.aload 5) := by decide +kernel
theorem e_Dk_open_50 (a0 a1 a2 a3 a4 a6 a7 : AV) (σ : aM) (l5 : Option (Nat × Int)) (r : List AV)  : ev 17 50 [a0, a1, a2, a3, a4, aQ l5, a6, a7] (r) σ = ev 17 52 [a0, a1, a2, a3, a4, aQ l5, a6, a7] (aQ l5 :: r) σ := ev_go f_Dk_open_50 rfl
theorem f_Dk_open_52 : fetch 17 52 = some (.getfield 72) := by decide +kernel
theorem e_Dk_open_52 (a0 a1 a2 a3 a4 a5 a6 a7 : AV) (σ : aM) (i : Int) (r : List AV)  : ev 17 52 [a0, a1, a2, a3, a4, a5, a6, a7] (aR 8 i :: r) σ = ev 17 55 [a0, a1, a2, a3, a4, a5, a6, a7] (aI (gI σ 8 i 4) :: r) σ := ev_go f_Dk_open_52 rfl
theorem f_Dk_open_55 : fetch 17 55 = some (.aload 6) := by decide +kernel
theorem e_Dk_open_55 (a0 a1 a2 a3 a4 a5 a7 : AV) (σ : aM) (l6 : Option (Nat × Int)) (r : List AV)  : ev 17 55 [a0, a1, a2, a3, a4, a5, aQ l6, a7] (r) σ = ev 17 57 [a0, a1, a2, a3, a4, a5, aQ l6, a7] (aQ l6 :: r) σ := ev_go f_Dk_open_55 rfl
theorem f_Dk_open_57 : fetch 17 57 = some (.getfield 72) := by decide +kernel
theorem e_Dk_open_57 (a0 a1 a2 a3 a4 a5 a6 a7 : AV) (σ : aM) (i : Int) (r : List AV)  : ev 17 57 [a0, a1, a2, a3, a4, a5, a6, a7] (aR 8 i :: r) σ = ev 17 60 [a0, a1, a2, a3, a4, a5, a6, a7] (aI (gI σ 8 i 4) :: r) σ := ev_go f_Dk_open_57 rfl
theorem f_Dk_open_60 : fetch 17 60 = some (.invokestatic 85) := by decide +kernel
theorem e_Dk_open_60 (a0 a1 a2 a3 a4 a5 a6 a7 : AV) (σ : aM) (s0 : Int) (s1 : Int) (s2 : Int) : ev 17 60 [a0, a1, a2, a3, a4, a5, a6, a7] [aI s2, aI s1, aI s0] σ = ev 17 63 [a0, a1, a2, a3, a4, a5, a6, a7] (aI (if s2 < s1 then s2 else s1) :: [aI s0]) σ := ev_go f_Dk_open_60 rfl
theorem f_Dk_open_63 : fetch 17 63 = some (.invokestatic 85) := by decide +kernel
theorem e_Dk_open_63 (a0 a1 a2 a3 a4 a5 a6 a7 : AV) (σ : aM) (s0 : Int) (s1 : Int) : ev 17 63 [a0, a1, a2, a3, a4, a5, a6, a7] [aI s1, aI s0] σ = ev 17 66 [a0, a1, a2, a3, a4, a5, a6, a7] (aI (if s1 < s0 then s1 else s0) :: []) σ := ev_go f_Dk_open_63 rfl
theorem f_Dk_open_66 : fetch 17 66 = some (.istore 7) := by decide +kernel
theorem e_Dk_open_66 (a0 a1 a2 a3 a4 a5 a7 : AV) (σ : aM) (x : Int) (l6 : Option (Nat × Int)) (r : List AV)  : ev 17 66 [a0, a1, a2, a3, a4, a5, aQ l6, a7] (aI x :: r) σ = ev 17 68 [a0, a1, a2, a3, a4, a5, aQ l6, aI x] (r) σ := ev_go f_Dk_open_66 rfl
theorem f_Dk_open_68 : fetch 17 68 = some (.aload_n 0) := by decide +kernel
theorem e_Dk_open_68 (a1 a2 a3 a4 a5 a6 a7 : AV) (σ : aM) (l0 : Option (Nat × Int)) (r : List AV)  : ev 17 68 [aQ l0, a1, a2, a3, a4, a5, a6, a7] (r) σ = ev 17 69 [aQ l0, a1, a2, a3, a4, a5, a6, a7] (aQ l0 :: r) σ := ev_go f_Dk_open_68 rfl
theorem f_Dk_open_69 : fetch 17 69 = some (.aload 5) := by decide +kernel
theorem e_Dk_open_69 (a0 a1 a2 a3 a4 a6 a7 : AV) (σ : aM) (l5 : Option (Nat × Int)) (r : List AV)  : ev 17 69 [a0, a1, a2, a3, a4, aQ l5, a6, a7] (r) σ = ev 17 71 [a0, a1, a2, a3, a4, aQ l5, a6, a7] (aQ l5 :: r) σ := ev_go f_Dk_open_69 rfl
theorem f_Dk_open_71 : fetch 17 71 = some (.aload 6) := by decide +kernel
theorem e_Dk_open_71 (a0 a1 a2 a3 a4 a5 a7 : AV) (σ : aM) (l6 : Option (Nat × Int)) (r : List AV)  : ev 17 71 [a0, a1, a2, a3, a4, a5, aQ l6, a7] (r) σ = ev 17 73 [a0, a1, a2, a3, a4, a5, aQ l6, a7] (aQ l6 :: r) σ := ev_go f_Dk_open_71 rfl
theorem f_Dk_open_73 : fetch 17 73 = some (.iload_n 1) := by decide +kernel
theorem e_Dk_open_73 (a0 a2 a3 a4 a5 a6 a7 : AV) (σ : aM) (l1 : Int) (r : List AV)  : ev 17 73 [a0, aI l1, a2, a3, a4, a5, a6, a7] (r) σ = ev 17 74 [a0, aI l1, a2, a3, a4, a5, a6, a7] (aI l1 :: r) σ := ev_go f_Dk_open_73 rfl
theorem f_Dk_open_74 : fetch 17 74 = some (.iload 7) := by decide +kernel
theorem e_Dk_open_74 (a0 a1 a2 a3 a4 a5 a6 : AV) (σ : aM) (l7 : Int) (r : List AV)  : ev 17 74 [a0, a1, a2, a3, a4, a5, a6, aI l7] (r) σ = ev 17 76 [a0, a1, a2, a3, a4, a5, a6, aI l7] (aI l7 :: r) σ := ev_go f_Dk_open_74 rfl
theorem f_Dk_open_76 : fetch 17 76 = some (.invokevirtual 91) := by decide +kernel
theorem e_Dk_open_76 (a0 a1 a2 a3 a4 a5 a6 a7 : AV) (σ : aM) (s0 : Int) (s1 : Option (Nat × Int)) (s2 : Option (Nat × Int)) (s3 : Int) (s4 : Int) : ev 17 76 [a0, a1, a2, a3, a4, a5, a6, a7] [aI s4, aI s3, aQ s2, aQ s1, aR 5 s0] σ = evK 17 79 [a0, a1, a2, a3, a4, a5, a6, a7] [] (ev 27 0 [aR 5 s0, aQ s1, aQ s2, aI s3, aI s4] [] σ) := ev_call f_Dk_open_76 rfl rfl
theorem f_Dk_open_79 : fetch 17 79 = some (.aload 5) := by decide +kernel
theorem e_Dk_open_79 (a0 a1 a2 a3 a4 a6 a7 : AV) (σ : aM) (l5 : Option (Nat × Int)) (r : List AV)  : ev 17 79 [a0, a1, a2, a3, a4, aQ l5, a6, a7] (r) σ = ev 17 81 [a0, a1, a2, a3, a4, aQ l5, a6, a7] (aQ l5 :: r) σ := ev_go f_Dk_open_79 rfl
theorem f_Dk_open_81 : fetch 17 81 = some (.invokevirtual 95) := by decide +kernel
theorem e_Dk_open_81 (a0 a1 a2 a3 a4 a5 a6 a7 : AV) (σ : aM) (s0 : Int) : ev 17 81 [a0, a1, a2, a3, a4, a5, a6, a7] [aR 8 s0] σ = evK 17 84 [a0, a1, a2, a3, a4, a5, a6, a7] [] (ev 44 0 [aR 8 s0] [] σ) := ev_call f_Dk_open_81 rfl rfl
theorem f_Dk_open_84 : fetch 17 84 = some (.aload 6) := by decide +kernel
theorem e_Dk_open_84 (a0 a1 a2 a3 a4 a5 a7 : AV) (σ : aM) (l6 : Option (Nat × Int)) (r : List AV)  : ev 17 84 [a0, a1, a2, a3, a4, a5, aQ l6, a7] (r) σ = ev 17 86 [a0, a1, a2, a3, a4, a5, aQ l6, a7] (aQ l6 :: r) σ := ev_go f_Dk_open_84 rfl
theorem f_Dk_open_86 : fetch 17 86 = some (.invokevirtual 95) := by decide +kernel
theorem e_Dk_open_86 (a0 a1 a2 a3 a4 a5 a6 a7 : AV) (σ : aM) (s0 : Int) : ev 17 86 [a0, a1, a2, a3, a4, a5, a6, a7] [aR 8 s0] σ = evK 17 89 [a0, a1, a2, a3, a4, a5, a6, a7] [] (ev 44 0 [aR 8 s0] [] σ) := ev_call f_Dk_open_86 rfl rfl
theorem f_Dk_open_89 : fetch 17 89 = some (.iload_n 3) := by decide +kernel
theorem e_Dk_open_89 (a0 a1 a2 a4 a5 a6 a7 : AV) (σ : aM) (l3 : Int) (r : List AV)  : ev 17 89 [a0, a1, a2, aI l3, a4, a5, a6, a7] (r) σ = ev 17 90 [a0, a1, a2, aI l3, a4, a5, a6, a7] (aI l3 :: r) σ := ev_go f_Dk_open_89 rfl
theorem f_Dk_open_90 : fetch 17 90 = some (.iload 7) := by decide +kernel
theorem e_Dk_open_90 (a0 a1 a2 a3 a4 a5 a6 : AV) (σ : aM) (l7 : Int) (r : List AV)  : ev 17 90 [a0, a1, a2, a3, a4, a5, a6, aI l7] (r) σ = ev 17 92 [a0, a1, a2, a3, a4, a5, a6, aI l7] (aI l7 :: r) σ := ev_go f_Dk_open_90 rfl
theorem f_Dk_open_92 : fetch 17 92 = some (.isub) := by decide +kernel
theorem e_Dk_open_92 (a0 a1 a2 a3 a4 a5 a6 a7 : AV) (σ : aM) (x z : Int) (r : List AV)  : ev 17 92 [a0, a1, a2, a3, a4, a5, a6, a7] (aI z :: aI x :: r) σ = ev 17 93 [a0, a1, a2, a3, a4, a5, a6, a7] (aI (wr (x - z)) :: r) σ := ev_go f_Dk_open_92 rfl
theorem f_Dk_open_93 : fetch 17 93 = some (.istore_n 3) := by decide +kernel
theorem e_Dk_open_93 (a0 a1 a3 a4 a5 a6 a7 : AV) (σ : aM) (x : Int) (l2 : Int) (r : List AV)  : ev 17 93 [a0, a1, aI l2, a3, a4, a5, a6, a7] (aI x :: r) σ = ev 17 94 [a0, a1, aI l2, aI x, a4, a5, a6, a7] (r) σ := ev_go f_Dk_open_93 rfl
theorem f_Dk_open_94 : fetch 17 94 = some (.iinc 4 1) := by decide +kernel
theorem e_Dk_open_94 (a0 a1 a2 a5 a6 a7 : AV) (σ : aM) (l4 : Int) (l3 : Int) (r : List AV)  : ev 17 94 [a0, a1, a2, aI l3, aI l4, a5, a6, a7] (r) σ = ev 17 97 [a0, a1, a2, aI l3, aI (wr (l4 + 1)), a5, a6, a7] (r) σ := ev_go f_Dk_open_94 rfl
theorem f_Dk_open_97 : fetch 17 97 = some (.goto (-92)) := by decide +kernel
theorem e_Dk_open_97 (a0 a1 a2 a3 a4 a5 a6 a7 : AV) (σ : aM) (r : List AV)  : ev 17 97 [a0, a1, a2, a3, a4, a5, a6, a7] (r) σ = ev 17 5 [a0, a1, a2, a3, a4, a5, a6, a7] (r) σ := ev_go f_Dk_open_97 rfl
theorem f_Dk_open_100 : fetch 17 100 = some (.aload_n 0) := by decide +kernel
theorem e_Dk_open_100 (a1 a2 a3 a4 a5 a6 a7 : AV) (σ : aM) (l0 : Option (Nat × Int)) (r : List AV)  : ev 17 100 [aQ l0, a1, a2, a3, a4, a5, a6, a7] (r) σ = ev 17 101 [aQ l0, a1, a2, a3, a4, a5, a6, a7] (aQ l0 :: r) σ := ev_go f_Dk_open_100 rfl
theorem f_Dk_open_101 : fetch 17 101 = some (.getfield 12) := by decide +kernel
theorem e_Dk_open_101 (a0 a1 a2 a3 a4 a5 a6 a7 : AV) (σ : aM) (i : Int) (r : List AV)  : ev 17 101 [a0, a1, a2, a3, a4, a5, a6, a7] (aR 5 i :: r) σ = ev 17 104 [a0, a1, a2, a3, a4, a5, a6, a7] (aR 6 0 :: r) σ := ev_go f_Dk_open_101 rfl
theorem f_Dk_open_104 : fetch 17 104 = some (.iconst 1) := by decide +kernel
theorem e_Dk_open_104 (a0 a1 a2 a3 a4 a5 a6 a7 : AV) (σ : aM) (r : List AV)  : ev 17 104 [a0, a1, a2, a3, a4, a5, a6, a7] (r) σ = ev 17 105 [a0, a1, a2, a3, a4, a5, a6, a7] (aI 1 :: r) σ := ev_go f_Dk_open_104 rfl
theorem f_Dk_open_105 : fetch 17 105 = some (.putfield 98) := by decide +kernel
theorem e_Dk_open_105 (a0 a1 a2 a3 a4 a5 a6 a7 : AV) (σ : aM) (i : Int) (x : Int) (r : List AV)  : ev 17 105 [a0, a1, a2, a3, a4, a5, a6, a7] (aI x :: aR 6 i :: r) σ = ev 17 108 [a0, a1, a2, a3, a4, a5, a6, a7] (r) (uI σ 6 i 3 x) := ev_go f_Dk_open_105 rfl
theorem f_Dk_open_108 : fetch 17 108 = some (.aload_n 0) := by decide +kernel
theorem e_Dk_open_108 (a1 a2 a3 a4 a5 a6 a7 : AV) (σ : aM) (l0 : Option (Nat × Int)) (r : List AV)  : ev 17 108 [aQ l0, a1, a2, a3, a4, a5, a6, a7] (r) σ = ev 17 109 [aQ l0, a1, a2, a3, a4, a5, a6, a7] (aQ l0 :: r) σ := ev_go f_Dk_open_108 rfl
theorem f_Dk_open_109 : fetch 17 109 = some (.invokevirtual 53) := by decide +kernel
theorem e_Dk_open_109 (a0 a1 a2 a3 a4 a5 a6 a7 : AV) (σ : aM) (s0 : Int) : ev 17 109 [a0, a1, a2, a3, a4, a5, a6, a7] [aR 5 s0] σ = evK 17 112 [a0, a1, a2, a3, a4, a5, a6, a7] [] (ev 30 0 [aR 5 s0, aU, aU] [] σ) := ev_call f_Dk_open_109 rfl rfl
theorem f_Dk_open_112 : fetch 17 112 = some (.return_) := by decide +kernel
theorem e_Dk_open_112 (a0 a1 a2 a3 a4 a5 a6 a7 : AV) (σ : aM)  : ev 17 112 [a0, a1, a2, a3, a4, a5, a6, a7] [] σ = some (none, σ) := ev_ret f_Dk_open_112 rfl
theorem f_Dk_enter_0 : fetch 18 0 = some (.aload_n 0) := by decide +kernel
theorem e_Dk_enter_0 (a1 : AV) (σ : aM) (l0 : Option (Nat × Int)) (r : List AV)  : ev 18 0 [aQ l0, a1] (r) σ = ev 18 1 [aQ l0, a1] (aQ l0 :: r) σ := ev_go f_Dk_enter_0 rfl
theorem f_Dk_enter_1 : fetch 18 1 = some (.getfield 12) := by decide +kernel
theorem e_Dk_enter_1 (a0 a1 : AV) (σ : aM) (i : Int) (r : List AV)  : ev 18 1 [a0, a1] (aR 5 i :: r) σ = ev 18 4 [a0, a1] (aR 6 0 :: r) σ := ev_go f_Dk_enter_1 rfl
theorem f_Dk_enter_4 : fetch 18 4 = some (.getfield 98) := by decide +kernel
theorem e_Dk_enter_4 (a0 a1 : AV) (σ : aM) (i : Int) (r : List AV)  : ev 18 4 [a0, a1] (aR 6 i :: r) σ = ev 18 7 [a0, a1] (aI (gI σ 6 i 3) :: r) σ := ev_go f_Dk_enter_4 rfl
theorem f_Dk_enter_7 : fetch 18 7 = some (.iconst 1) := by decide +kernel
theorem e_Dk_enter_7 (a0 a1 : AV) (σ : aM) (r : List AV)  : ev 18 7 [a0, a1] (r) σ = ev 18 8 [a0, a1] (aI 1 :: r) σ := ev_go f_Dk_enter_7 rfl
theorem f_Dk_enter_8 : fetch 18 8 = some (.if_icmp .ne 12) := by decide +kernel
theorem e_Dk_enter_8 (a0 a1 : AV) (σ : aM) (x z : Int) (r : List AV) : ev 18 8 [a0, a1] (aI z :: aI x :: r) σ = if ¬ x = z then ev 18 20 [a0, a1] r σ else ev 18 11 [a0, a1] r σ := ev_br f_Dk_enter_8 rfl bc_ne
theorem f_Dk_enter_11 : fetch 18 11 = some (.aload_n 0) := by decide +kernel
theorem e_Dk_enter_11 (a1 : AV) (σ : aM) (l0 : Option (Nat × Int)) (r : List AV)  : ev 18 11 [aQ l0, a1] (r) σ = ev 18 12 [aQ l0, a1] (aQ l0 :: r) σ := ev_go f_Dk_enter_11 rfl
theorem f_Dk_enter_12 : fetch 18 12 = some (.aload_n 1) := by decide +kernel
theorem e_Dk_enter_12 (a0 : AV) (σ : aM) (l1 : Option (Nat × Int)) (r : List AV)  : ev 18 12 [a0, aQ l1] (r) σ = ev 18 13 [a0, aQ l1] (aQ l1 :: r) σ := ev_go f_Dk_enter_12 rfl
theorem f_Dk_enter_13 : fetch 18 13 = some (.aload_n 1) := by decide +kernel
theorem e_Dk_enter_13 (a0 : AV) (σ : aM) (l1 : Option (Nat × Int)) (r : List AV)  : ev 18 13 [a0, aQ l1] (r) σ = ev 18 14 [a0, aQ l1] (aQ l1 :: r) σ := ev_go f_Dk_enter_13 rfl
theorem f_Dk_enter_14 : fetch 18 14 = some (.getfield 75) := by decide +kernel
theorem e_Dk_enter_14 (a0 a1 : AV) (σ : aM) (i : Int) (r : List AV)  : ev 18 14 [a0, a1] (aR 8 i :: r) σ = ev 18 17 [a0, a1] (aI (gI σ 8 i 7) :: r) σ := ev_go f_Dk_enter_14 rfl
theorem f_Dk_enter_17 : fetch 18 17 = some (.invokevirtual 63) := by decide +kernel
theorem e_Dk_enter_17 (a0 a1 : AV) (σ : aM) (s0 : Int) (s1 : Option (Nat × Int)) (s2 : Int) : ev 18 17 [a0, a1] [aI s2, aQ s1, aR 5 s0] σ = evK 18 20 [a0, a1] [] (ev 24 0 [aR 5 s0, aQ s1, aI s2, aU, aU, aU] [] σ) := ev_call f_Dk_enter_17 rfl rfl
theorem f_Dk_enter_20 : fetch 18 20 = some (.aload_n 1) := by decide +kernel
theorem e_Dk_enter_20 (a0 : AV) (σ : aM) (l1 : Option (Nat × Int)) (r : List AV)  : ev 18 20 [a0, aQ l1] (r) σ = ev 18 21 [a0, aQ l1] (aQ l1 :: r) σ := ev_go f_Dk_enter_20 rfl
theorem f_Dk_enter_21 : fetch 18 21 = some (.getfield 39) := by decide +kernel
theorem e_Dk_enter_21 (a0 a1 : AV) (σ : aM) (i : Int) (r : List AV)  : ev 18 21 [a0, a1] (aR 8 i :: r) σ = ev 18 24 [a0, a1] (aI (gI σ 8 i 5) :: r) σ := ev_go f_Dk_enter_21 rfl
theorem f_Dk_enter_24 : fetch 18 24 = some (.iconst 4) := by decide +kernel
theorem e_Dk_enter_24 (a0 a1 : AV) (σ : aM) (r : List AV)  : ev 18 24 [a0, a1] (r) σ = ev 18 25 [a0, a1] (aI 4 :: r) σ := ev_go f_Dk_enter_24 rfl
theorem f_Dk_enter_25 : fetch 18 25 = some (.if_icmp .ne 11) := by decide +kernel
theorem e_Dk_enter_25 (a0 a1 : AV) (σ : aM) (x z : Int) (r : List AV) : ev 18 25 [a0, a1] (aI z :: aI x :: r) σ = if ¬ x = z then ev 18 36 [a0, a1] r σ else ev 18 28 [a0, a1] r σ := ev_br f_Dk_enter_25 rfl bc_ne
theorem f_Dk_enter_28 : fetch 18 28 = some (.aload_n 0) := by decide +kernel
theorem e_Dk_enter_28 (a1 : AV) (σ : aM) (l0 : Option (Nat × Int)) (r : List AV)  : ev 18 28 [aQ l0, a1] (r) σ = ev 18 29 [aQ l0, a1] (aQ l0 :: r) σ := ev_go f_Dk_enter_28 rfl
theorem f_Dk_enter_29 : fetch 18 29 = some (.getfield 12) := by decide +kernel
theorem e_Dk_enter_29 (a0 a1 : AV) (σ : aM) (i : Int) (r : List AV)  : ev 18 29 [a0, a1] (aR 5 i :: r) σ = ev 18 32 [a0, a1] (aR 6 0 :: r) σ := ev_go f_Dk_enter_29 rfl
theorem f_Dk_enter_32 : fetch 18 32 = some (.aload_n 1) := by decide +kernel
theorem e_Dk_enter_32 (a0 : AV) (σ : aM) (l1 : Option (Nat × Int)) (r : List AV)  : ev 18 32 [a0, aQ l1] (r) σ = ev 18 33 [a0, aQ l1] (aQ l1 :: r) σ := ev_go f_Dk_enter_32 rfl
theorem f_Dk_enter_33 : fetch 18 33 = some (.invokevirtual 42) := by decide +kernel
theorem e_Dk_enter_33 (a0 a1 : AV) (σ : aM) (s0 : Int) (s1 : Option (Nat × Int)) : ev 18 33 [a0, a1] [aQ s1, aR 6 s0] σ = evK 18 36 [a0, a1] [] (ev 7 0 [aR 6 s0, aQ s1] [] σ) := ev_call f_Dk_enter_33 rfl rfl
theorem f_Dk_enter_36 : fetch 18 36 = some (.return_) := by decide +kernel
theorem e_Dk_enter_36 (a0 a1 : AV) (σ : aM)  : ev 18 36 [a0, a1] [] σ = some (none, σ) := ev_ret f_Dk_enter_36 rfl
theorem f_Dk_tryAtOnce_0 : fetch 19 0 = some (.aload_n 0) := by decide +kernel
theorem e_Dk_tryAtOnce_0 (a1 a2 : AV) (σ : aM) (l0 : Option (Nat × Int)) (r : List AV)  : ev 19 0 [aQ l0, a1, a2] (r) σ = ev 19 1 [aQ l0, a1, a2] (aQ l0 :: r) σ := ev_go f_Dk_tryAtOnce_0 rfl
theorem f_Dk_tryAtOnce_1 : fetch 19 1 = some (.getfield 12) := by decide +kernel
theorem e_Dk_tryAtOnce_1 (a0 a1 a2 : AV) (σ : aM) (i : Int) (r : List AV)  : ev 19 1 [a0, a1, a2] (aR 5 i :: r) σ = ev 19 4 [a0, a1, a2] (aR 6 0 :: r) σ := ev_go f_Dk_tryAtOnce_1 rfl
theorem f_Dk_tryAtOnce_4 : fetch 19 4 = some (.getfield 98) := by decide +kernel
theorem e_Dk_tryAtOnce_4 (a0 a1 a2 : AV) (σ : aM) (i : Int) (r : List AV)  : ev 19 4 [a0, a1, a2] (aR 6 i :: r) σ = ev 19 7 [a0, a1, a2] (aI (gI σ 6 i 3) :: r) σ := ev_go f_Dk_tryAtOnce_4 rfl
theorem f_Dk_tryAtOnce_7 : fetch 19 7 = some (.iconst 1) := by decide +kernel
theorem e_Dk_tryAtOnce_7 (a0 a1 a2 : AV) (σ : aM) (r : List AV)  : ev 19 7 [a0, a1, a2] (r) σ = ev 19 8 [a0, a1, a2] (aI 1 :: r) σ := ev_go f_Dk_tryAtOnce_7 rfl
theorem f_Dk_tryAtOnce_8 : fetch 19 8 = some (.if_icmp .ne 25) := by decide +kernel
theorem e_Dk_tryAtOnce_8 (a0 a1 a2 : AV) (σ : aM) (x z : Int) (r : List AV) : ev 19 8 [a0, a1, a2] (aI z :: aI x :: r) σ = if ¬ x = z then ev 19 33 [a0, a1, a2] r σ else ev 19 11 [a0, a1, a2] r σ := ev_br f_Dk_tryAtOnce_8 rfl bc_ne
theorem f_Dk_tryAtOnce_11 : fetch 19 11 = some (.iload_n 2) := by decide +kernel
theorem e_Dk_tryAtOnce_11 (a0 a1 : AV) (σ : aM) (l2 : Int) (r : List AV)  : ev 19 11 [a0, a1, aI l2] (r) σ = ev 19 12 [a0, a1, aI l2] (aI l2 :: r) σ := ev_go f_Dk_tryAtOnce_11 rfl
theorem f_Dk_tryAtOnce_12 : fetch 19 12 = some (.iconst 1) := by decide +kernel
theorem e_Dk_tryAtOnce_12 (a0 a1 a2 : AV) (σ : aM) (r : List AV)  : ev 19 12 [a0, a1, a2] (r) σ = ev 19 13 [a0, a1, a2] (aI 1 :: r) σ := ev_go f_Dk_tryAtOnce_12 rfl
theorem f_Dk_tryAtOnce_13 : fetch 19 13 = some (.if_icmp .eq 11) := by decide +kernel
theorem e_Dk_tryAtOnce_13 (a0 a1 a2 : AV) (σ : aM) (x z : Int) (r : List AV) : ev 19 13 [a0, a1, a2] (aI z :: aI x :: r) σ = if x = z then ev 19 24 [a0, a1, a2] r σ else ev 19 16 [a0, a1, a2] r σ := ev_br f_Dk_tryAtOnce_13 rfl bc_eq
theorem f_Dk_tryAtOnce_16 : fetch 19 16 = some (.aload_n 0) := by decide +kernel
theorem e_Dk_tryAtOnce_16 (a1 a2 : AV) (σ : aM) (l0 : Option (Nat × Int)) (r : List AV)  : ev 19 16 [aQ l0, a1, a2] (r) σ = ev 19 17 [aQ l0, a1, a2] (aQ l0 :: r) σ := ev_go f_Dk_tryAtOnce_16 rfl
theorem f_Dk_tryAtOnce_17 : fetch 19 17 = some (.aload_n 1) := by decide +kernel
theorem e_Dk_tryAtOnce_17 (a0 a2 : AV) (σ : aM) (l1 : Option (Nat × Int)) (r : List AV)  : ev 19 17 [a0, aQ l1, a2] (r) σ = ev 19 18 [a0, aQ l1, a2] (aQ l1 :: r) σ := ev_go f_Dk_tryAtOnce_17 rfl
theorem f_Dk_tryAtOnce_18 : fetch 19 18 = some (.invokevirtual 101) := by decide +kernel
theorem e_Dk_tryAtOnce_18 (a0 a1 a2 : AV) (σ : aM) (s0 : Int) (s1 : Option (Nat × Int)) : ev 19 18 [a0, a1, a2] [aQ s1, aR 5 s0] σ = evK 19 21 [a0, a1, a2] [] (ev 22 0 [aR 5 s0, aQ s1, aU, aU, aU, aU, aU, aU] [] σ) := ev_call f_Dk_tryAtOnce_18 rfl rfl
theorem f_Dk_tryAtOnce_21 : fetch 19 21 = some (.ifCond .eq 12) := by decide +kernel
theorem e_Dk_tryAtOnce_21 (a0 a1 a2 : AV) (σ : aM) (x : Int) (r : List AV) : ev 19 21 [a0, a1, a2] (aI x :: r) σ = if x = 0 then ev 19 33 [a0, a1, a2] r σ else ev 19 24 [a0, a1, a2] r σ := ev_br f_Dk_tryAtOnce_21 rfl bc_eq
theorem f_Dk_tryAtOnce_24 : fetch 19 24 = some (.aload_n 0) := by decide +kernel
theorem e_Dk_tryAtOnce_24 (a1 a2 : AV) (σ : aM) (l0 : Option (Nat × Int)) (r : List AV)  : ev 19 24 [aQ l0, a1, a2] (r) σ = ev 19 25 [aQ l0, a1, a2] (aQ l0 :: r) σ := ev_go f_Dk_tryAtOnce_24 rfl
theorem f_Dk_tryAtOnce_25 : fetch 19 25 = some (.aload_n 1) := by decide +kernel
theorem e_Dk_tryAtOnce_25 (a0 a2 : AV) (σ : aM) (l1 : Option (Nat × Int)) (r : List AV)  : ev 19 25 [a0, aQ l1, a2] (r) σ = ev 19 26 [a0, aQ l1, a2] (aQ l1 :: r) σ := ev_go f_Dk_tryAtOnce_25 rfl
theorem f_Dk_tryAtOnce_26 : fetch 19 26 = some (.aload_n 1) := by decide +kernel
theorem e_Dk_tryAtOnce_26 (a0 a2 : AV) (σ : aM) (l1 : Option (Nat × Int)) (r : List AV)  : ev 19 26 [a0, aQ l1, a2] (r) σ = ev 19 27 [a0, aQ l1, a2] (aQ l1 :: r) σ := ev_go f_Dk_tryAtOnce_26 rfl
theorem f_Dk_tryAtOnce_27 : fetch 19 27 = some (.getfield 75) := by decide +kernel
theorem e_Dk_tryAtOnce_27 (a0 a1 a2 : AV) (σ : aM) (i : Int) (r : List AV)  : ev 19 27 [a0, a1, a2] (aR 8 i :: r) σ = ev 19 30 [a0, a1, a2] (aI (gI σ 8 i 7) :: r) σ := ev_go f_Dk_tryAtOnce_27 rfl
theorem f_Dk_tryAtOnce_30 : fetch 19 30 = some (.invokevirtual 63) := by decide +kernel
theorem e_Dk_tryAtOnce_30 (a0 a1 a2 : AV) (σ : aM) (s0 : Int) (s1 : Option (Nat × Int)) (s2 : Int) : ev 19 30 [a0, a1, a2] [aI s2, aQ s1, aR 5 s0] σ = evK 19 33 [a0, a1, a2] [] (ev 24 0 [aR 5 s0, aQ s1, aI s2, aU, aU, aU] [] σ) := ev_call f_Dk_tryAtOnce_30 rfl rfl
theorem f_Dk_tryAtOnce_33 : fetch 19 33 = some (.aload_n 1) := by decide +kernel
theorem e_Dk_tryAtOnce_33 (a0 a2 : AV) (σ : aM) (l1 : Option (Nat × Int)) (r : List AV)  : ev 19 33 [a0, aQ l1, a2] (r) σ = ev 19 34 [a0, aQ l1, a2] (aQ l1 :: r) σ := ev_go f_Dk_tryAtOnce_33 rfl
theorem f_Dk_tryAtOnce_34 : fetch 19 34 = some (.invokestatic 105) := by decide +kernel
theorem e_Dk_tryAtOnce_34 (a0 a1 a2 : AV) (σ : aM) (s0 : Option (Nat × Int)) : ev 19 34 [a0, a1, a2] [aQ s0] σ = evK 19 37 [a0, a1, a2] [] (ev 21 0 [aQ s0] [] σ) := ev_call f_Dk_tryAtOnce_34 rfl rfl
theorem f_Dk_tryAtOnce_37 : fetch 19 37 = some (.return_) := by decide +kernel
theorem e_Dk_tryAtOnce_37 (a0 a1 a2 : AV) (σ : aM)  : ev 19 37 [a0, a1, a2] [] σ = some (none, σ) := ev_ret f_Dk_tryAtOnce_37 rfl
theorem f_Dk_noLimit_0 : fetch 20 0 = some (.iload_n 0) := by decide +kernel
theorem e_Dk_noLimit_0 (σ : aM) (l0 : Int) (r : List AV)  : ev 20 0 [aI l0] (r) σ = ev 20 1 [aI l0] (aI l0 :: r) σ := ev_go f_Dk_noLimit_0 rfl
theorem f_Dk_noLimit_1 : fetch 20 1 = some (.ifCond .ne 9) := by decide +kernel
theorem e_Dk_noLimit_1 (a0 : AV) (σ : aM) (x : Int) (r : List AV) : ev 20 1 [a0] (aI x :: r) σ = if ¬ x = 0 then ev 20 10 [a0] r σ else ev 20 4 [a0] r σ := ev_br f_Dk_noLimit_1 rfl bc_ne
theorem f_Dk_noLimit_4 : fetch 20 4 = some (.sipush 999) := by decide +kernel
theorem e_Dk_noLimit_4 (a0 : AV) (σ : aM) (r : List AV)  : ev 20 4 [a0] (r) σ = ev 20 7 [a0] (aI 999 :: r) σ := ev_go f_Dk_noLimit_4 rfl
theorem f_Dk_noLimit_7 : fetch 20 7 = some (.goto 4) := by decide +kernel
theorem e_Dk_noLimit_7 (a0 : AV) (σ : aM) (r : List AV)  : ev 20 7 [a0] (r) σ = ev 20 11 [a0] (r) σ := ev_go f_Dk_noLimit_7 rfl
theorem f_Dk_noLimit_10 : fetch 20 10 = some (.iconst 1) := by decide +kernel
theorem e_Dk_noLimit_10 (a0 : AV) (σ : aM) (r : List AV)  : ev 20 10 [a0] (r) σ = ev 20 11 [a0] (aI 1 :: r) σ := ev_go f_Dk_noLimit_10 rfl
theorem f_Dk_noLimit_11 : fetch 20 11 = some (.ireturn) := by decide +kernel
theorem e_Dk_noLimit_11 (a0 : AV) (σ : aM) (x : Int) : ev 20 11 [a0] [aI x] σ = some ((some (aI x)), σ) := ev_ret f_Dk_noLimit_11 rfl
theorem f_Dk_endUnrested_0 : fetch 21 0 = some (.aload_n 0) := by decide +kernel
theorem e_Dk_endUnrested_0 (σ : aM) (l0 : Option (Nat × Int)) (r : List AV)  : ev 21 0 [aQ l0] (r) σ = ev 21 1 [aQ l0] (aQ l0 :: r) σ := ev_go f_Dk_endUnrested_0 rfl
theorem f_Dk_endUnrested_1 : fetch 21 1 = some (.getfield 39) := by decide +kernel
theorem e_Dk_endUnrested_1 (a0 : AV) (σ : aM) (i : Int) (r : List AV)  : ev 21 1 [a0] (aR 8 i :: r) σ = ev 21 4 [a0] (aI (gI σ 8 i 5) :: r) σ := ev_go f_Dk_endUnrested_1 rfl
theorem f_Dk_endUnrested_4 : fetch 21 4 = some (.iconst 4) := by decide +kernel
theorem e_Dk_endUnrested_4 (a0 : AV) (σ : aM) (r : List AV)  : ev 21 4 [a0] (r) σ = ev 21 5 [a0] (aI 4 :: r) σ := ev_go f_Dk_endUnrested_4 rfl
theorem f_Dk_endUnrested_5 : fetch 21 5 = some (.if_icmp .ne 8) := by decide +kernel
theorem e_Dk_endUnrested_5 (a0 : AV) (σ : aM) (x z : Int) (r : List AV) : ev 21 5 [a0] (aI z :: aI x :: r) σ = if ¬ x = z then ev 21 13 [a0] r σ else ev 21 8 [a0] r σ := ev_br f_Dk_endUnrested_5 rfl bc_ne
theorem f_Dk_endUnrested_8 : fetch 21 8 = some (.aload_n 0) := by decide +kernel
theorem e_Dk_endUnrested_8 (σ : aM) (l0 : Option (Nat × Int)) (r : List AV)  : ev 21 8 [aQ l0] (r) σ = ev 21 9 [aQ l0] (aQ l0 :: r) σ := ev_go f_Dk_endUnrested_8 rfl
theorem f_Dk_endUnrested_9 : fetch 21 9 = some (.iconst 3) := by decide +kernel
theorem e_Dk_endUnrested_9 (a0 : AV) (σ : aM) (r : List AV)  : ev 21 9 [a0] (r) σ = ev 21 10 [a0] (aI 3 :: r) σ := ev_go f_Dk_endUnrested_9 rfl
theorem f_Dk_endUnrested_10 : fetch 21 10 = some (.putfield 39) := by decide +kernel
theorem e_Dk_endUnrested_10 (a0 : AV) (σ : aM) (i : Int) (x : Int) (r : List AV)  : ev 21 10 [a0] (aI x :: aR 8 i :: r) σ = ev 21 13 [a0] (r) (uI σ 8 i 5 x) := ev_go f_Dk_endUnrested_10 rfl
theorem f_Dk_endUnrested_13 : fetch 21 13 = some (.return_) := by decide +kernel
theorem e_Dk_endUnrested_13 (a0 : AV) (σ : aM)  : ev 21 13 [a0] [] σ = some (none, σ) := ev_ret f_Dk_endUnrested_13 rfl
theorem f_Dk_thereIsEnoughFor_0 : fetch 22 0 = some (.aload_n 1) := by decide +kernel
theorem e_Dk_thereIsEnoughFor_0 (a0 a2 a3 a4 a5 a6 a7 : AV) (σ : aM) (l1 : Option (Nat × Int)) (r : List AV)  : ev 22 0 [a0, aQ l1, a2, a3, a4, a5, a6, a7] (r) σ = ev 22 1 [a0, aQ l1, a2, a3, a4, a5, a6, a7] (aQ l1 :: r) σ := ev_go f_Dk_thereIsEnoughFor_0 rfl
theorem f_Dk_thereIsEnoughFor_1 : fetch 22 1 = some (.getfield 108) := by decide +kernel
theorem e_Dk_thereIsEnoughFor_1 (a0 a1 a2 a3 a4 a5 a6 a7 : AV) (σ : aM) (i : Int) (r : List AV)  : ev 22 1 [a0, a1, a2, a3, a4, a5, a6, a7] (aR 8 i :: r) σ = ev 22 4 [a0, a1, a2, a3, a4, a5, a6, a7] (aI (gI σ 8 i 3) :: r) σ := ev_go f_Dk_thereIsEnoughFor_1 rfl
theorem f_Dk_thereIsEnoughFor_4 : fetch 22 4 = some (.invokestatic 111) := by decide +kernel
theorem e_Dk_thereIsEnoughFor_4 (a0 a1 a2 a3 a4 a5 a6 a7 : AV) (σ : aM) (s0 : Int) : ev 22 4 [a0, a1, a2, a3, a4, a5, a6, a7] [aI s0] σ = evK 22 7 [a0, a1, a2, a3, a4, a5, a6, a7] [] (ev 121 0 [aI s0] [] σ) := ev_call f_Dk_thereIsEnoughFor_4 rfl rfl
theorem f_Dk_thereIsEnoughFor_7 : fetch 22 7 = some (.istore_n 2) := by decide +kernel
theorem e_Dk_thereIsEnoughFor_7 (a0 a2 a3 a4 a5 a6 a7 : AV) (σ : aM) (x : Int) (l1 : Option (Nat × Int)) (r : List AV)  : ev 22 7 [a0, aQ l1, a2, a3, a4, a5, a6, a7] (aI x :: r) σ = ev 22 8 [a0, aQ l1, aI x, a3, a4, a5, a6, a7] (r) σ := ev_go f_Dk_thereIsEnoughFor_7 rfl
theorem f_Dk_thereIsEnoughFor_8 : fetch 22 8 = some (.aload_n 0) := by decide +kernel
theorem e_Dk_thereIsEnoughFor_8 (a1 a2 a3 a4 a5 a6 a7 : AV) (σ : aM) (l0 : Option (Nat × Int)) (r : List AV)  : ev 22 8 [aQ l0, a1, a2, a3, a4, a5, a6, a7] (r) σ = ev 22 9 [aQ l0, a1, a2, a3, a4, a5, a6, a7] (aQ l0 :: r) σ := ev_go f_Dk_thereIsEnoughFor_8 rfl
theorem f_Dk_thereIsEnoughFor_9 : fetch 22 9 = some (.getfield 12) := by decide +kernel
theorem e_Dk_thereIsEnoughFor_9 (a0 a1 a2 a3 a4 a5 a6 a7 : AV) (σ : aM) (i : Int) (r : List AV)  : ev 22 9 [a0, a1, a2, a3, a4, a5, a6, a7] (aR 5 i :: r) σ = ev 22 12 [a0, a1, a2, a3, a4, a5, a6, a7] (aR 6 0 :: r) σ := ev_go f_Dk_thereIsEnoughFor_9 rfl
theorem f_Dk_thereIsEnoughFor_12 : fetch 22 12 = some (.iload_n 2) := by decide +kernel
theorem e_Dk_thereIsEnoughFor_12 (a0 a1 a3 a4 a5 a6 a7 : AV) (σ : aM) (l2 : Int) (r : List AV)  : ev 22 12 [a0, a1, aI l2, a3, a4, a5, a6, a7] (r) σ = ev 22 13 [a0, a1, aI l2, a3, a4, a5, a6, a7] (aI l2 :: r) σ := ev_go f_Dk_thereIsEnoughFor_12 rfl
theorem f_Dk_thereIsEnoughFor_13 : fetch 22 13 = some (.invokevirtual 114) := by decide +kernel
theorem e_Dk_thereIsEnoughFor_13 (a0 a1 a2 a3 a4 a5 a6 a7 : AV) (σ : aM) (s0 : Int) (s1 : Int) : ev 22 13 [a0, a1, a2, a3, a4, a5, a6, a7] [aI s1, aR 6 s0] σ = evK 22 16 [a0, a1, a2, a3, a4, a5, a6, a7] [] (ev 9 0 [aR 6 s0, aI s1, aU] [] σ) := ev_call f_Dk_thereIsEnoughFor_13 rfl rfl
theorem f_Dk_thereIsEnoughFor_16 : fetch 22 16 = some (.istore_n 3) := by decide +kernel
theorem e_Dk_thereIsEnoughFor_16 (a0 a1 a3 a4 a5 a6 a7 : AV) (σ : aM) (x : Int) (l2 : Int) (r : List AV)  : ev 22 16 [a0, a1, aI l2, a3, a4, a5, a6, a7] (aI x :: r) σ = ev 22 17 [a0, a1, aI l2, aI x, a4, a5, a6, a7] (r) σ := ev_go f_Dk_thereIsEnoughFor_16 rfl
theorem f_Dk_thereIsEnoughFor_17 : fetch 22 17 = some (.iconst 0) := by decide +kernel
theorem e_Dk_thereIsEnoughFor_17 (a0 a1 a2 a3 a4 a5 a6 a7 : AV) (σ : aM) (r : List AV)  : ev 22 17 [a0, a1, a2, a3, a4, a5, a6, a7] (r) σ = ev 22 18 [a0, a1, a2, a3, a4, a5, a6, a7] (aI 0 :: r) σ := ev_go f_Dk_thereIsEnoughFor_17 rfl
theorem f_Dk_thereIsEnoughFor_18 : fetch 22 18 = some (.istore 4) := by decide +kernel
theorem e_Dk_thereIsEnoughFor_18 (a0 a1 a2 a4 a5 a6 a7 : AV) (σ : aM) (x : Int) (l3 : Int) (r : List AV)  : ev 22 18 [a0, a1, a2, aI l3, a4, a5, a6, a7] (aI x :: r) σ = ev 22 20 [a0, a1, a2, aI l3, aI x, a5, a6, a7] (r) σ := ev_go f_Dk_thereIsEnoughFor_18 rfl
theorem f_Dk_thereIsEnoughFor_20 : fetch 22 20 = some (.iconst 0) := by decide +kernel
theorem e_Dk_thereIsEnoughFor_20 (a0 a1 a2 a3 a4 a5 a6 a7 : AV) (σ : aM) (r : List AV)  : ev 22 20 [a0, a1, a2, a3, a4, a5, a6, a7] (r) σ = ev 22 21 [a0, a1, a2, a3, a4, a5, a6, a7] (aI 0 :: r) σ := ev_go f_Dk_thereIsEnoughFor_20 rfl
theorem f_Dk_thereIsEnoughFor_21 : fetch 22 21 = some (.istore 5) := by decide +kernel
theorem e_Dk_thereIsEnoughFor_21 (a0 a1 a2 a3 a5 a6 a7 : AV) (σ : aM) (x : Int) (l4 : Int) (r : List AV)  : ev 22 21 [a0, a1, a2, a3, aI l4, a5, a6, a7] (aI x :: r) σ = ev 22 23 [a0, a1, a2, a3, aI l4, aI x, a6, a7] (r) σ := ev_go f_Dk_thereIsEnoughFor_21 rfl
theorem f_Dk_thereIsEnoughFor_23 : fetch 22 23 = some (.iload 5) := by decide +kernel
theorem e_Dk_thereIsEnoughFor_23 (a0 a1 a2 a3 a4 a6 a7 : AV) (σ : aM) (l5 : Int) (r : List AV)  : ev 22 23 [a0, a1, a2, a3, a4, aI l5, a6, a7] (r) σ = ev 22 25 [a0, a1, a2, a3, a4, aI l5, a6, a7] (aI l5 :: r) σ := ev_go f_Dk_thereIsEnoughFor_23 rfl
theorem f_Dk_thereIsEnoughFor_25 : fetch 22 25 = some (.aload_n 0) := by decide +kernel
theorem e_Dk_thereIsEnoughFor_25 (a1 a2 a3 a4 a5 a6 a7 : AV) (σ : aM) (l0 : Option (Nat × Int)) (r : List AV)  : ev 22 25 [aQ l0, a1, a2, a3, a4, a5, a6, a7] (r) σ = ev 22 26 [aQ l0, a1, a2, a3, a4, a5, a6, a7] (aQ l0 :: r) σ := ev_go f_Dk_thereIsEnoughFor_25 rfl
theorem f_Dk_thereIsEnoughFor_26 : fetch 22 26 = some (.getfield 12) := by decide +kernel
theorem e_Dk_thereIsEnoughFor_26 (a0 a1 a2 a3 a4 a5 a6 a7 : AV) (σ : aM) (i : Int) (r : List AV)  : ev 22 26 [a0, a1, a2, a3, a4, a5, a6, a7] (aR 5 i :: r) σ = ev 22 29 [a0, a1, a2, a3, a4, a5, a6, a7] (aR 6 0 :: r) σ := ev_go f_Dk_thereIsEnoughFor_26 rfl
theorem f_Dk_thereIsEnoughFor_29 : fetch 22 29 = some (.getfield 27) := by decide +kernel
theorem e_Dk_thereIsEnoughFor_29 (a0 a1 a2 a3 a4 a5 a6 a7 : AV) (σ : aM) (i : Int) (r : List AV)  : ev 22 29 [a0, a1, a2, a3, a4, a5, a6, a7] (aR 6 i :: r) σ = ev 22 32 [a0, a1, a2, a3, a4, a5, a6, a7] (aI (gI σ 6 i 2) :: r) σ := ev_go f_Dk_thereIsEnoughFor_29 rfl
theorem f_Dk_thereIsEnoughFor_32 : fetch 22 32 = some (.if_icmp .ge 91) := by decide +kernel
theorem e_Dk_thereIsEnoughFor_32 (a0 a1 a2 a3 a4 a5 a6 a7 : AV) (σ : aM) (x z : Int) (r : List AV) : ev 22 32 [a0, a1, a2, a3, a4, a5, a6, a7] (aI z :: aI x :: r) σ = if z ≤ x then ev 22 123 [a0, a1, a2, a3, a4, a5, a6, a7] r σ else ev 22 35 [a0, a1, a2, a3, a4, a5, a6, a7] r σ := ev_br f_Dk_thereIsEnoughFor_32 rfl bc_ge
theorem f_Dk_thereIsEnoughFor_35 : fetch 22 35 = some (.aload_n 0) := by decide +kernel
theorem e_Dk_thereIsEnoughFor_35 (a1 a2 a3 a4 a5 a6 a7 : AV) (σ : aM) (l0 : Option (Nat × Int)) (r : List AV)  : ev 22 35 [aQ l0, a1, a2, a3, a4, a5, a6, a7] (r) σ = ev 22 36 [aQ l0, a1, a2, a3, a4, a5, a6, a7] (aQ l0 :: r) σ := ev_go f_Dk_thereIsEnoughFor_35 rfl
theorem f_Dk_thereIsEnoughFor_36 : fetch 22 36 = some (.getfield 12) := by decide +kernel
theorem e_Dk_thereIsEnoughFor_36 (a0 a1 a2 a3 a4 a5 a6 a7 : AV) (σ : aM) (i : Int) (r : List AV)  : ev 22 36 [a0, a1, a2, a3, a4, a5, a6, a7] (aR 5 i :: r) σ = ev 22 39 [a0, a1, a2, a3, a4, a5, a6, a7] (aR 6 0 :: r) σ := ev_go f_Dk_thereIsEnoughFor_36 rfl
theorem f_Dk_thereIsEnoughFor_39 : fetch 22 39 = some (.getfield 31) := by decide +kernel
theorem e_Dk_thereIsEnoughFor_39 (a0 a1 a2 a3 a4 a5 a6 a7 : AV) (σ : aM) (i : Int) (r : List AV)  : ev 22 39 [a0, a1, a2, a3, a4, a5, a6, a7] (aR 6 i :: r) σ = ev 22 42 [a0, a1, a2, a3, a4, a5, a6, a7] (aR 7 i :: r) σ := ev_go f_Dk_thereIsEnoughFor_39 rfl
theorem f_Dk_thereIsEnoughFor_42 : fetch 22 42 = some (.iload 5) := by decide +kernel
theorem e_Dk_thereIsEnoughFor_42 (a0 a1 a2 a3 a4 a6 a7 : AV) (σ : aM) (l5 : Int) (r : List AV)  : ev 22 42 [a0, a1, a2, a3, a4, aI l5, a6, a7] (r) σ = ev 22 44 [a0, a1, a2, a3, a4, aI l5, a6, a7] (aI l5 :: r) σ := ev_go f_Dk_thereIsEnoughFor_42 rfl
theorem f_Dk_thereIsEnoughFor_44 : fetch 22 44 = some (.aaload) := by decide +kernel
theorem e_Dk_thereIsEnoughFor_44 (a0 a1 a2 a3 a4 a5 a6 a7 : AV) (σ : aM) (x : Int) (i : Int) (r : List AV) (h : 0 ≤ x ∧ x < 60) : ev 22 44 [a0, a1, a2, a3, a4, a5, a6, a7] (aI x :: aR 7 i :: r) σ = ev 22 45 [a0, a1, a2, a3, a4, a5, a6, a7] (aR 8 (60 * i + x) :: r) σ := ev_cd f_Dk_thereIsEnoughFor_44 rfl ⟨by decide, by decide, h.1, by rw [aLen_n (by decide) rfl]; exact h.2⟩
theorem f_Dk_thereIsEnoughFor_45 : fetch 22 45 = some (.astore 6) := by decide +kernel
theorem e_Dk_thereIsEnoughFor_45 (a0 a1 a2 a3 a4 a6 a7 : AV) (σ : aM) (q : Option (Nat × Int)) (l5 : Int) (r : List AV)  : ev 22 45 [a0, a1, a2, a3, a4, aI l5, a6, a7] (aQ q :: r) σ = ev 22 47 [a0, a1, a2, a3, a4, aI l5, aQ q, a7] (r) σ := ev_go f_Dk_thereIsEnoughFor_45 rfl
theorem f_Dk_thereIsEnoughFor_47 : fetch 22 47 = some (.aload_n 0) := by decide +kernel
theorem e_Dk_thereIsEnoughFor_47 (a1 a2 a3 a4 a5 a6 a7 : AV) (σ : aM) (l0 : Option (Nat × Int)) (r : List AV)  : ev 22 47 [aQ l0, a1, a2, a3, a4, a5, a6, a7] (r) σ = ev 22 48 [aQ l0, a1, a2, a3, a4, a5, a6, a7] (aQ l0 :: r) σ := ev_go f_Dk_thereIsEnoughFor_47 rfl
theorem f_Dk_thereIsEnoughFor_48 : fetch 22 48 = some (.getfield 12) := by decide +kernel
theorem e_Dk_thereIsEnoughFor_48 (a0 a1 a2 a3 a4 a5 a6 a7 : AV) (σ : aM) (i : Int) (r : List AV)  : ev 22 48 [a0, a1, a2, a3, a4, a5, a6, a7] (aR 5 i :: r) σ = ev 22 51 [a0, a1, a2, a3, a4, a5, a6, a7] (aR 6 0 :: r) σ := ev_go f_Dk_thereIsEnoughFor_48 rfl
theorem f_Dk_thereIsEnoughFor_51 : fetch 22 51 = some (.getfield 117) := by decide +kernel
theorem e_Dk_thereIsEnoughFor_51 (a0 a1 a2 a3 a4 a5 a6 a7 : AV) (σ : aM) (i : Int) (r : List AV)  : ev 22 51 [a0, a1, a2, a3, a4, a5, a6, a7] (aR 6 i :: r) σ = ev 22 54 [a0, a1, a2, a3, a4, a5, a6, a7] (aI (gI σ 6 i 4) :: r) σ := ev_go f_Dk_thereIsEnoughFor_51 rfl
theorem f_Dk_thereIsEnoughFor_54 : fetch 22 54 = some (.ifCond .eq 15) := by decide +kernel
theorem e_Dk_thereIsEnoughFor_54 (a0 a1 a2 a3 a4 a5 a6 a7 : AV) (σ : aM) (x : Int) (r : List AV) : ev 22 54 [a0, a1, a2, a3, a4, a5, a6, a7] (aI x :: r) σ = if x = 0 then ev 22 69 [a0, a1, a2, a3, a4, a5, a6, a7] r σ else ev 22 57 [a0, a1, a2, a3, a4, a5, a6, a7] r σ := ev_br f_Dk_thereIsEnoughFor_54 rfl bc_eq
theorem f_Dk_thereIsEnoughFor_57 : fetch 22 57 = some (.aload 6) := by decide +kernel
theorem e_Dk_thereIsEnoughFor_57 (a0 a1 a2 a3 a4 a5 a7 : AV) (σ : aM) (l6 : Option (Nat × Int)) (r : List AV)  : ev 22 57 [a0, a1, a2, a3, a4, a5, aQ l6, a7] (r) σ = ev 22 59 [a0, a1, a2, a3, a4, a5, aQ l6, a7] (aQ l6 :: r) σ := ev_go f_Dk_thereIsEnoughFor_57 rfl
theorem f_Dk_thereIsEnoughFor_59 : fetch 22 59 = some (.getfield 120) := by decide +kernel
theorem e_Dk_thereIsEnoughFor_59 (a0 a1 a2 a3 a4 a5 a6 a7 : AV) (σ : aM) (i : Int) (r : List AV)  : ev 22 59 [a0, a1, a2, a3, a4, a5, a6, a7] (aR 8 i :: r) σ = ev 22 62 [a0, a1, a2, a3, a4, a5, a6, a7] (aI (gI σ 8 i 2) :: r) σ := ev_go f_Dk_thereIsEnoughFor_59 rfl
theorem f_Dk_thereIsEnoughFor_62 : fetch 22 62 = some (.aload_n 1) := by decide +kernel
theorem e_Dk_thereIsEnoughFor_62 (a0 a2 a3 a4 a5 a6 a7 : AV) (σ : aM) (l1 : Option (Nat × Int)) (r : List AV)  : ev 22 62 [a0, aQ l1, a2, a3, a4, a5, a6, a7] (r) σ = ev 22 63 [a0, aQ l1, a2, a3, a4, a5, a6, a7] (aQ l1 :: r) σ := ev_go f_Dk_thereIsEnoughFor_62 rfl
theorem f_Dk_thereIsEnoughFor_63 : fetch 22 63 = some (.getfield 120) := by decide +kernel
theorem e_Dk_thereIsEnoughFor_63 (a0 a1 a2 a3 a4 a5 a6 a7 : AV) (σ : aM) (i : Int) (r : List AV)  : ev 22 63 [a0, a1, a2, a3, a4, a5, a6, a7] (aR 8 i :: r) σ = ev 22 66 [a0, a1, a2, a3, a4, a5, a6, a7] (aI (gI σ 8 i 2) :: r) σ := ev_go f_Dk_thereIsEnoughFor_63 rfl
theorem f_Dk_thereIsEnoughFor_66 : fetch 22 66 = some (.if_icmp .eq 7) := by decide +kernel
theorem e_Dk_thereIsEnoughFor_66 (a0 a1 a2 a3 a4 a5 a6 a7 : AV) (σ : aM) (x z : Int) (r : List AV) : ev 22 66 [a0, a1, a2, a3, a4, a5, a6, a7] (aI z :: aI x :: r) σ = if x = z then ev 22 73 [a0, a1, a2, a3, a4, a5, a6, a7] r σ else ev 22 69 [a0, a1, a2, a3, a4, a5, a6, a7] r σ := ev_br f_Dk_thereIsEnoughFor_66 rfl bc_eq
theorem f_Dk_thereIsEnoughFor_69 : fetch 22 69 = some (.iconst 1) := by decide +kernel
theorem e_Dk_thereIsEnoughFor_69 (a0 a1 a2 a3 a4 a5 a6 a7 : AV) (σ : aM) (r : List AV)  : ev 22 69 [a0, a1, a2, a3, a4, a5, a6, a7] (r) σ = ev 22 70 [a0, a1, a2, a3, a4, a5, a6, a7] (aI 1 :: r) σ := ev_go f_Dk_thereIsEnoughFor_69 rfl
theorem f_Dk_thereIsEnoughFor_70 : fetch 22 70 = some (.goto 4) := by decide +kernel
theorem e_Dk_thereIsEnoughFor_70 (a0 a1 a2 a3 a4 a5 a6 a7 : AV) (σ : aM) (r : List AV)  : ev 22 70 [a0, a1, a2, a3, a4, a5, a6, a7] (r) σ = ev 22 74 [a0, a1, a2, a3, a4, a5, a6, a7] (r) σ := ev_go f_Dk_thereIsEnoughFor_70 rfl
theorem f_Dk_thereIsEnoughFor_73 : fetch 22 73 = some (.iconst 0) := by decide +kernel
theorem e_Dk_thereIsEnoughFor_73 (a0 a1 a2 a3 a4 a5 a6 a7 : AV) (σ : aM) (r : List AV)  : ev 22 73 [a0, a1, a2, a3, a4, a5, a6, a7] (r) σ = ev 22 74 [a0, a1, a2, a3, a4, a5, a6, a7] (aI 0 :: r) σ := ev_go f_Dk_thereIsEnoughFor_73 rfl
theorem f_Dk_thereIsEnoughFor_74 : fetch 22 74 = some (.istore 7) := by decide +kernel
theorem e_Dk_thereIsEnoughFor_74 (a0 a1 a2 a3 a4 a5 a7 : AV) (σ : aM) (x : Int) (l6 : Option (Nat × Int)) (r : List AV)  : ev 22 74 [a0, a1, a2, a3, a4, a5, aQ l6, a7] (aI x :: r) σ = ev 22 76 [a0, a1, a2, a3, a4, a5, aQ l6, aI x] (r) σ := ev_go f_Dk_thereIsEnoughFor_74 rfl
theorem f_Dk_thereIsEnoughFor_76 : fetch 22 76 = some (.aload 6) := by decide +kernel
theorem e_Dk_thereIsEnoughFor_76 (a0 a1 a2 a3 a4 a5 a7 : AV) (σ : aM) (l6 : Option (Nat × Int)) (r : List AV)  : ev 22 76 [a0, a1, a2, a3, a4, a5, aQ l6, a7] (r) σ = ev 22 78 [a0, a1, a2, a3, a4, a5, aQ l6, a7] (aQ l6 :: r) σ := ev_go f_Dk_thereIsEnoughFor_76 rfl
theorem f_Dk_thereIsEnoughFor_78 : fetch 22 78 = some (.iload_n 2) := by decide +kernel
theorem e_Dk_thereIsEnoughFor_78 (a0 a1 a3 a4 a5 a6 a7 : AV) (σ : aM) (l2 : Int) (r : List AV)  : ev 22 78 [a0, a1, aI l2, a3, a4, a5, a6, a7] (r) σ = ev 22 79 [a0, a1, aI l2, a3, a4, a5, a6, a7] (aI l2 :: r) σ := ev_go f_Dk_thereIsEnoughFor_78 rfl
theorem f_Dk_thereIsEnoughFor_79 : fetch 22 79 = some (.invokevirtual 123) := by decide +kernel
theorem e_Dk_thereIsEnoughFor_79 (a0 a1 a2 a3 a4 a5 a6 a7 : AV) (σ : aM) (s0 : Int) (s1 : Int) : ev 22 79 [a0, a1, a2, a3, a4, a5, a6, a7] [aI s1, aR 8 s0] σ = evK 22 82 [a0, a1, a2, a3, a4, a5, a6, a7] [] (ev 38 0 [aR 8 s0, aI s1] [] σ) := ev_call f_Dk_thereIsEnoughFor_79 rfl rfl
theorem f_Dk_thereIsEnoughFor_82 : fetch 22 82 = some (.ifCond .eq 35) := by decide +kernel
theorem e_Dk_thereIsEnoughFor_82 (a0 a1 a2 a3 a4 a5 a6 a7 : AV) (σ : aM) (x : Int) (r : List AV) : ev 22 82 [a0, a1, a2, a3, a4, a5, a6, a7] (aI x :: r) σ = if x = 0 then ev 22 117 [a0, a1, a2, a3, a4, a5, a6, a7] r σ else ev 22 85 [a0, a1, a2, a3, a4, a5, a6, a7] r σ := ev_br f_Dk_thereIsEnoughFor_82 rfl bc_eq
theorem f_Dk_thereIsEnoughFor_85 : fetch 22 85 = some (.iload 7) := by decide +kernel
theorem e_Dk_thereIsEnoughFor_85 (a0 a1 a2 a3 a4 a5 a6 : AV) (σ : aM) (l7 : Int) (r : List AV)  : ev 22 85 [a0, a1, a2, a3, a4, a5, a6, aI l7] (r) σ = ev 22 87 [a0, a1, a2, a3, a4, a5, a6, aI l7] (aI l7 :: r) σ := ev_go f_Dk_thereIsEnoughFor_85 rfl
theorem f_Dk_thereIsEnoughFor_87 : fetch 22 87 = some (.ifCond .eq 30) := by decide +kernel
theorem e_Dk_thereIsEnoughFor_87 (a0 a1 a2 a3 a4 a5 a6 a7 : AV) (σ : aM) (x : Int) (r : List AV) : ev 22 87 [a0, a1, a2, a3, a4, a5, a6, a7] (aI x :: r) σ = if x = 0 then ev 22 117 [a0, a1, a2, a3, a4, a5, a6, a7] r σ else ev 22 90 [a0, a1, a2, a3, a4, a5, a6, a7] r σ := ev_br f_Dk_thereIsEnoughFor_87 rfl bc_eq
theorem f_Dk_thereIsEnoughFor_90 : fetch 22 90 = some (.aload_n 1) := by decide +kernel
theorem e_Dk_thereIsEnoughFor_90 (a0 a2 a3 a4 a5 a6 a7 : AV) (σ : aM) (l1 : Option (Nat × Int)) (r : List AV)  : ev 22 90 [a0, aQ l1, a2, a3, a4, a5, a6, a7] (r) σ = ev 22 91 [a0, aQ l1, a2, a3, a4, a5, a6, a7] (aQ l1 :: r) σ := ev_go f_Dk_thereIsEnoughFor_90 rfl
theorem f_Dk_thereIsEnoughFor_91 : fetch 22 91 = some (.aload 6) := by decide +kernel
theorem e_Dk_thereIsEnoughFor_91 (a0 a1 a2 a3 a4 a5 a7 : AV) (σ : aM) (l6 : Option (Nat × Int)) (r : List AV)  : ev 22 91 [a0, a1, a2, a3, a4, a5, aQ l6, a7] (r) σ = ev 22 93 [a0, a1, a2, a3, a4, a5, aQ l6, a7] (aQ l6 :: r) σ := ev_go f_Dk_thereIsEnoughFor_91 rfl
theorem f_Dk_thereIsEnoughFor_93 : fetch 22 93 = some (.iload_n 3) := by decide +kernel
theorem e_Dk_thereIsEnoughFor_93 (a0 a1 a2 a4 a5 a6 a7 : AV) (σ : aM) (l3 : Int) (r : List AV)  : ev 22 93 [a0, a1, a2, aI l3, a4, a5, a6, a7] (r) σ = ev 22 94 [a0, a1, a2, aI l3, a4, a5, a6, a7] (aI l3 :: r) σ := ev_go f_Dk_thereIsEnoughFor_93 rfl
theorem f_Dk_thereIsEnoughFor_94 : fetch 22 94 = some (.invokevirtual 127) := by decide +kernel
theorem e_Dk_thereIsEnoughFor_94 (a0 a1 a2 a3 a4 a5 a6 a7 : AV) (σ : aM) (s0 : Option (Nat × Int)) (s1 : Int) (s2 : Int) : ev 22 94 [a0, a1, a2, a3, a4, a5, a6, a7] [aI s2, aR 8 s1, aQ s0] σ = evK 22 97 [a0, a1, a2, a3, a4, a5, a6, a7] [aQ s0] (ev 40 0 [aR 8 s1, aI s2, aU] [] σ) := ev_call f_Dk_thereIsEnoughFor_94 rfl rfl
theorem f_Dk_thereIsEnoughFor_97 : fetch 22 97 = some (.aload_n 1) := by decide +kernel
theorem e_Dk_thereIsEnoughFor_97 (a0 a2 a3 a4 a5 a6 a7 : AV) (σ : aM) (l1 : Option (Nat × Int)) (r : List AV)  : ev 22 97 [a0, aQ l1, a2, a3, a4, a5, a6, a7] (r) σ = ev 22 98 [a0, aQ l1, a2, a3, a4, a5, a6, a7] (aQ l1 :: r) σ := ev_go f_Dk_thereIsEnoughFor_97 rfl
theorem f_Dk_thereIsEnoughFor_98 : fetch 22 98 = some (.getfield 75) := by decide +kernel
theorem e_Dk_thereIsEnoughFor_98 (a0 a1 a2 a3 a4 a5 a6 a7 : AV) (σ : aM) (i : Int) (r : List AV)  : ev 22 98 [a0, a1, a2, a3, a4, a5, a6, a7] (aR 8 i :: r) σ = ev 22 101 [a0, a1, a2, a3, a4, a5, a6, a7] (aI (gI σ 8 i 7) :: r) σ := ev_go f_Dk_thereIsEnoughFor_98 rfl
theorem f_Dk_thereIsEnoughFor_101 : fetch 22 101 = some (.invokestatic 130) := by decide +kernel
theorem e_Dk_thereIsEnoughFor_101 (a0 a1 a2 a3 a4 a5 a6 a7 : AV) (σ : aM) (s0 : Option (Nat × Int)) (s1 : Int) (s2 : Int) : ev 22 101 [a0, a1, a2, a3, a4, a5, a6, a7] [aI s2, aI s1, aQ s0] σ = evK 22 104 [a0, a1, a2, a3, a4, a5, a6, a7] [] (ev 23 0 [aQ s0, aI s1, aI s2] [] σ) := ev_call f_Dk_thereIsEnoughFor_101 rfl rfl
theorem f_Dk_thereIsEnoughFor_104 : fetch 22 104 = some (.ifCond .eq 13) := by decide +kernel
theorem e_Dk_thereIsEnoughFor_104 (a0 a1 a2 a3 a4 a5 a6 a7 : AV) (σ : aM) (x : Int) (r : List AV) : ev 22 104 [a0, a1, a2, a3, a4, a5, a6, a7] (aI x :: r) σ = if x = 0 then ev 22 117 [a0, a1, a2, a3, a4, a5, a6, a7] r σ else ev 22 107 [a0, a1, a2, a3, a4, a5, a6, a7] r σ := ev_br f_Dk_thereIsEnoughFor_104 rfl bc_eq
theorem f_Dk_thereIsEnoughFor_107 : fetch 22 107 = some (.iload 4) := by decide +kernel
theorem e_Dk_thereIsEnoughFor_107 (a0 a1 a2 a3 a5 a6 a7 : AV) (σ : aM) (l4 : Int) (r : List AV)  : ev 22 107 [a0, a1, a2, a3, aI l4, a5, a6, a7] (r) σ = ev 22 109 [a0, a1, a2, a3, aI l4, a5, a6, a7] (aI l4 :: r) σ := ev_go f_Dk_thereIsEnoughFor_107 rfl
theorem f_Dk_thereIsEnoughFor_109 : fetch 22 109 = some (.aload 6) := by decide +kernel
theorem e_Dk_thereIsEnoughFor_109 (a0 a1 a2 a3 a4 a5 a7 : AV) (σ : aM) (l6 : Option (Nat × Int)) (r : List AV)  : ev 22 109 [a0, a1, a2, a3, a4, a5, aQ l6, a7] (r) σ = ev 22 111 [a0, a1, a2, a3, a4, a5, aQ l6, a7] (aQ l6 :: r) σ := ev_go f_Dk_thereIsEnoughFor_109 rfl
theorem f_Dk_thereIsEnoughFor_111 : fetch 22 111 = some (.getfield 72) := by decide +kernel
theorem e_Dk_thereIsEnoughFor_111 (a0 a1 a2 a3 a4 a5 a6 a7 : AV) (σ : aM) (i : Int) (r : List AV)  : ev 22 111 [a0, a1, a2, a3, a4, a5, a6, a7] (aR 8 i :: r) σ = ev 22 114 [a0, a1, a2, a3, a4, a5, a6, a7] (aI (gI σ 8 i 4) :: r) σ := ev_go f_Dk_thereIsEnoughFor_111 rfl
theorem f_Dk_thereIsEnoughFor_114 : fetch 22 114 = some (.iadd) := by decide +kernel
theorem e_Dk_thereIsEnoughFor_114 (a0 a1 a2 a3 a4 a5 a6 a7 : AV) (σ : aM) (x z : Int) (r : List AV)  : ev 22 114 [a0, a1, a2, a3, a4, a5, a6, a7] (aI z :: aI x :: r) σ = ev 22 115 [a0, a1, a2, a3, a4, a5, a6, a7] (aI (wr (x + z)) :: r) σ := ev_go f_Dk_thereIsEnoughFor_114 rfl
theorem f_Dk_thereIsEnoughFor_115 : fetch 22 115 = some (.istore 4) := by decide +kernel
theorem e_Dk_thereIsEnoughFor_115 (a0 a1 a2 a4 a5 a6 a7 : AV) (σ : aM) (x : Int) (l3 : Int) (r : List AV)  : ev 22 115 [a0, a1, a2, aI l3, a4, a5, a6, a7] (aI x :: r) σ = ev 22 117 [a0, a1, a2, aI l3, aI x, a5, a6, a7] (r) σ := ev_go f_Dk_thereIsEnoughFor_115 rfl
theorem f_Dk_thereIsEnoughFor_117 : fetch 22 117 = some (.iinc 5 1) := by decide +kernel
theorem e_Dk_thereIsEnoughFor_117 (a0 a1 a2 a3 a6 a7 : AV) (σ : aM) (l5 : Int) (l4 : Int) (r : List AV)  : ev 22 117 [a0, a1, a2, a3, aI l4, aI l5, a6, a7] (r) σ = ev 22 120 [a0, a1, a2, a3, aI l4, aI (wr (l5 + 1)), a6, a7] (r) σ := ev_go f_Dk_thereIsEnoughFor_117 rfl
theorem f_Dk_thereIsEnoughFor_120 : fetch 22 120 = some (.goto (-97)) := by decide +kernel
theorem e_Dk_thereIsEnoughFor_120 (a0 a1 a2 a3 a4 a5 a6 a7 : AV) (σ : aM) (r : List AV)  : ev 22 120 [a0, a1, a2, a3, a4, a5, a6, a7] (r) σ = ev 22 23 [a0, a1, a2, a3, a4, a5, a6, a7] (r) σ := ev_go f_Dk_thereIsEnoughFor_120 rfl
theorem f_Dk_thereIsEnoughFor_123 : fetch 22 123 = some (.iload 4) := by decide +kernel
theorem e_Dk_thereIsEnoughFor_123 (a0 a1 a2 a3 a5 a6 a7 : AV) (σ : aM) (l4 : Int) (r : List AV)  : ev 22 123 [a0, a1, a2, a3, aI l4, a5, a6, a7] (r) σ = ev 22 125 [a0, a1, a2, a3, aI l4, a5, a6, a7] (aI l4 :: r) σ := ev_go f_Dk_thereIsEnoughFor_123 rfl
theorem f_Dk_thereIsEnoughFor_125 : fetch 22 125 = some (.aload_n 1) := by decide +kernel
theorem e_Dk_thereIsEnoughFor_125 (a0 a2 a3 a4 a5 a6 a7 : AV) (σ : aM) (l1 : Option (Nat × Int)) (r : List AV)  : ev 22 125 [a0, aQ l1, a2, a3, a4, a5, a6, a7] (r) σ = ev 22 126 [a0, aQ l1, a2, a3, a4, a5, a6, a7] (aQ l1 :: r) σ := ev_go f_Dk_thereIsEnoughFor_125 rfl
theorem f_Dk_thereIsEnoughFor_126 : fetch 22 126 = some (.getfield 72) := by decide +kernel
theorem e_Dk_thereIsEnoughFor_126 (a0 a1 a2 a3 a4 a5 a6 a7 : AV) (σ : aM) (i : Int) (r : List AV)  : ev 22 126 [a0, a1, a2, a3, a4, a5, a6, a7] (aR 8 i :: r) σ = ev 22 129 [a0, a1, a2, a3, a4, a5, a6, a7] (aI (gI σ 8 i 4) :: r) σ := ev_go f_Dk_thereIsEnoughFor_126 rfl
theorem f_Dk_thereIsEnoughFor_129 : fetch 22 129 = some (.if_icmp .lt 7) := by decide +kernel
theorem e_Dk_thereIsEnoughFor_129 (a0 a1 a2 a3 a4 a5 a6 a7 : AV) (σ : aM) (x z : Int) (r : List AV) : ev 22 129 [a0, a1, a2, a3, a4, a5, a6, a7] (aI z :: aI x :: r) σ = if x < z then ev 22 136 [a0, a1, a2, a3, a4, a5, a6, a7] r σ else ev 22 132 [a0, a1, a2, a3, a4, a5, a6, a7] r σ := ev_br f_Dk_thereIsEnoughFor_129 rfl bc_lt
theorem f_Dk_thereIsEnoughFor_132 : fetch 22 132 = some (.iconst 1) := by decide +kernel
theorem e_Dk_thereIsEnoughFor_132 (a0 a1 a2 a3 a4 a5 a6 a7 : AV) (σ : aM) (r : List AV)  : ev 22 132 [a0, a1, a2, a3, a4, a5, a6, a7] (r) σ = ev 22 133 [a0, a1, a2, a3, a4, a5, a6, a7] (aI 1 :: r) σ := ev_go f_Dk_thereIsEnoughFor_132 rfl
theorem f_Dk_thereIsEnoughFor_133 : fetch 22 133 = some (.goto 4) := by decide +kernel
theorem e_Dk_thereIsEnoughFor_133 (a0 a1 a2 a3 a4 a5 a6 a7 : AV) (σ : aM) (r : List AV)  : ev 22 133 [a0, a1, a2, a3, a4, a5, a6, a7] (r) σ = ev 22 137 [a0, a1, a2, a3, a4, a5, a6, a7] (r) σ := ev_go f_Dk_thereIsEnoughFor_133 rfl
theorem f_Dk_thereIsEnoughFor_136 : fetch 22 136 = some (.iconst 0) := by decide +kernel
theorem e_Dk_thereIsEnoughFor_136 (a0 a1 a2 a3 a4 a5 a6 a7 : AV) (σ : aM) (r : List AV)  : ev 22 136 [a0, a1, a2, a3, a4, a5, a6, a7] (r) σ = ev 22 137 [a0, a1, a2, a3, a4, a5, a6, a7] (aI 0 :: r) σ := ev_go f_Dk_thereIsEnoughFor_136 rfl
theorem f_Dk_thereIsEnoughFor_137 : fetch 22 137 = some (.ireturn) := by decide +kernel
theorem e_Dk_thereIsEnoughFor_137 (a0 a1 a2 a3 a4 a5 a6 a7 : AV) (σ : aM) (x : Int) (h : x = 0 ∨ x = 1) : ev 22 137 [a0, a1, a2, a3, a4, a5, a6, a7] [aI x] σ = some ((some (aI x)), σ) := ev_rB f_Dk_thereIsEnoughFor_137 rfl h
theorem f_Dk_isWithin_0 : fetch 23 0 = some (.iload_n 1) := by decide +kernel
theorem e_Dk_isWithin_0 (a0 a2 : AV) (σ : aM) (l1 : Int) (r : List AV)  : ev 23 0 [a0, aI l1, a2] (r) σ = ev 23 1 [a0, aI l1, a2] (aI l1 :: r) σ := ev_go f_Dk_isWithin_0 rfl
theorem f_Dk_isWithin_1 : fetch 23 1 = some (.ifCond .ne 5) := by decide +kernel
theorem e_Dk_isWithin_1 (a0 a1 a2 : AV) (σ : aM) (x : Int) (r : List AV) : ev 23 1 [a0, a1, a2] (aI x :: r) σ = if ¬ x = 0 then ev 23 6 [a0, a1, a2] r σ else ev 23 4 [a0, a1, a2] r σ := ev_br f_Dk_isWithin_1 rfl bc_ne
theorem f_Dk_isWithin_4 : fetch 23 4 = some (.iconst 0) := by decide +kernel
theorem e_Dk_isWithin_4 (a0 a1 a2 : AV) (σ : aM) (r : List AV)  : ev 23 4 [a0, a1, a2] (r) σ = ev 23 5 [a0, a1, a2] (aI 0 :: r) σ := ev_go f_Dk_isWithin_4 rfl
theorem f_Dk_isWithin_5 : fetch 23 5 = some (.ireturn) := by decide +kernel
theorem e_Dk_isWithin_5 (a0 a1 a2 : AV) (σ : aM) (x : Int) (h : x = 0 ∨ x = 1) : ev 23 5 [a0, a1, a2] [aI x] σ = some ((some (aI x)), σ) := ev_rB f_Dk_isWithin_5 rfl h
theorem f_Dk_isWithin_6 : fetch 23 6 = some (.aload_n 0) := by decide +kernel
theorem e_Dk_isWithin_6 (a1 a2 : AV) (σ : aM) (l0 : Option (Nat × Int)) (r : List AV)  : ev 23 6 [aQ l0, a1, a2] (r) σ = ev 23 7 [aQ l0, a1, a2] (aQ l0 :: r) σ := ev_go f_Dk_isWithin_6 rfl
theorem f_Dk_isWithin_7 : fetch 23 7 = some (.getfield 108) := by decide +kernel
theorem e_Dk_isWithin_7 (a0 a1 a2 : AV) (σ : aM) (i : Int) (r : List AV)  : ev 23 7 [a0, a1, a2] (aR 8 i :: r) σ = ev 23 10 [a0, a1, a2] (aI (gI σ 8 i 3) :: r) σ := ev_go f_Dk_isWithin_7 rfl
theorem f_Dk_isWithin_10 : fetch 23 10 = some (.ifCond .ne 16) := by decide +kernel
theorem e_Dk_isWithin_10 (a0 a1 a2 : AV) (σ : aM) (x : Int) (r : List AV) : ev 23 10 [a0, a1, a2] (aI x :: r) σ = if ¬ x = 0 then ev 23 26 [a0, a1, a2] r σ else ev 23 13 [a0, a1, a2] r σ := ev_br f_Dk_isWithin_10 rfl bc_ne
theorem f_Dk_isWithin_13 : fetch 23 13 = some (.iload_n 1) := by decide +kernel
theorem e_Dk_isWithin_13 (a0 a2 : AV) (σ : aM) (l1 : Int) (r : List AV)  : ev 23 13 [a0, aI l1, a2] (r) σ = ev 23 14 [a0, aI l1, a2] (aI l1 :: r) σ := ev_go f_Dk_isWithin_13 rfl
theorem f_Dk_isWithin_14 : fetch 23 14 = some (.iload_n 2) := by decide +kernel
theorem e_Dk_isWithin_14 (a0 a1 : AV) (σ : aM) (l2 : Int) (r : List AV)  : ev 23 14 [a0, a1, aI l2] (r) σ = ev 23 15 [a0, a1, aI l2] (aI l2 :: r) σ := ev_go f_Dk_isWithin_14 rfl
theorem f_Dk_isWithin_15 : fetch 23 15 = some (.if_icmp .gt 7) := by decide +kernel
theorem e_Dk_isWithin_15 (a0 a1 a2 : AV) (σ : aM) (x z : Int) (r : List AV) : ev 23 15 [a0, a1, a2] (aI z :: aI x :: r) σ = if z < x then ev 23 22 [a0, a1, a2] r σ else ev 23 18 [a0, a1, a2] r σ := ev_br f_Dk_isWithin_15 rfl bc_gt
theorem f_Dk_isWithin_18 : fetch 23 18 = some (.iconst 1) := by decide +kernel
theorem e_Dk_isWithin_18 (a0 a1 a2 : AV) (σ : aM) (r : List AV)  : ev 23 18 [a0, a1, a2] (r) σ = ev 23 19 [a0, a1, a2] (aI 1 :: r) σ := ev_go f_Dk_isWithin_18 rfl
theorem f_Dk_isWithin_19 : fetch 23 19 = some (.goto 17) := by decide +kernel
theorem e_Dk_isWithin_19 (a0 a1 a2 : AV) (σ : aM) (r : List AV)  : ev 23 19 [a0, a1, a2] (r) σ = ev 23 36 [a0, a1, a2] (r) σ := ev_go f_Dk_isWithin_19 rfl
theorem f_Dk_isWithin_22 : fetch 23 22 = some (.iconst 0) := by decide +kernel
theorem e_Dk_isWithin_22 (a0 a1 a2 : AV) (σ : aM) (r : List AV)  : ev 23 22 [a0, a1, a2] (r) σ = ev 23 23 [a0, a1, a2] (aI 0 :: r) σ := ev_go f_Dk_isWithin_22 rfl
theorem f_Dk_isWithin_23 : fetch 23 23 = some (.goto 13) := by decide +kernel
theorem e_Dk_isWithin_23 (a0 a1 a2 : AV) (σ : aM) (r : List AV)  : ev 23 23 [a0, a1, a2] (r) σ = ev 23 36 [a0, a1, a2] (r) σ := ev_go f_Dk_isWithin_23 rfl
theorem f_Dk_isWithin_26 : fetch 23 26 = some (.iload_n 1) := by decide +kernel
theorem e_Dk_isWithin_26 (a0 a2 : AV) (σ : aM) (l1 : Int) (r : List AV)  : ev 23 26 [a0, aI l1, a2] (r) σ = ev 23 27 [a0, aI l1, a2] (aI l1 :: r) σ := ev_go f_Dk_isWithin_26 rfl
theorem f_Dk_isWithin_27 : fetch 23 27 = some (.iload_n 2) := by decide +kernel
theorem e_Dk_isWithin_27 (a0 a1 : AV) (σ : aM) (l2 : Int) (r : List AV)  : ev 23 27 [a0, a1, aI l2] (r) σ = ev 23 28 [a0, a1, aI l2] (aI l2 :: r) σ := ev_go f_Dk_isWithin_27 rfl
theorem f_Dk_isWithin_28 : fetch 23 28 = some (.if_icmp .lt 7) := by decide +kernel
theorem e_Dk_isWithin_28 (a0 a1 a2 : AV) (σ : aM) (x z : Int) (r : List AV) : ev 23 28 [a0, a1, a2] (aI z :: aI x :: r) σ = if x < z then ev 23 35 [a0, a1, a2] r σ else ev 23 31 [a0, a1, a2] r σ := ev_br f_Dk_isWithin_28 rfl bc_lt
theorem f_Dk_isWithin_31 : fetch 23 31 = some (.iconst 1) := by decide +kernel
theorem e_Dk_isWithin_31 (a0 a1 a2 : AV) (σ : aM) (r : List AV)  : ev 23 31 [a0, a1, a2] (r) σ = ev 23 32 [a0, a1, a2] (aI 1 :: r) σ := ev_go f_Dk_isWithin_31 rfl
theorem f_Dk_isWithin_32 : fetch 23 32 = some (.goto 4) := by decide +kernel
theorem e_Dk_isWithin_32 (a0 a1 a2 : AV) (σ : aM) (r : List AV)  : ev 23 32 [a0, a1, a2] (r) σ = ev 23 36 [a0, a1, a2] (r) σ := ev_go f_Dk_isWithin_32 rfl
theorem f_Dk_isWithin_35 : fetch 23 35 = some (.iconst 0) := by decide +kernel
theorem e_Dk_isWithin_35 (a0 a1 a2 : AV) (σ : aM) (r : List AV)  : ev 23 35 [a0, a1, a2] (r) σ = ev 23 36 [a0, a1, a2] (aI 0 :: r) σ := ev_go f_Dk_isWithin_35 rfl
theorem f_Dk_isWithin_36 : fetch 23 36 = some (.ireturn) := by decide +kernel
theorem e_Dk_isWithin_36 (a0 a1 a2 : AV) (σ : aM) (x : Int) (h : x = 0 ∨ x = 1) : ev 23 36 [a0, a1, a2] [aI x] σ = some ((some (aI x)), σ) := ev_rB f_Dk_isWithin_36 rfl h
theorem f_Dk_goIn_0 : fetch 24 0 = some (.aload_n 1) := by decide +kernel
theorem e_Dk_goIn_0 (a0 a2 a3 a4 a5 : AV) (σ : aM) (l1 : Option (Nat × Int)) (r : List AV)  : ev 24 0 [a0, aQ l1, a2, a3, a4, a5] (r) σ = ev 24 1 [a0, aQ l1, a2, a3, a4, a5] (aQ l1 :: r) σ := ev_go f_Dk_goIn_0 rfl
theorem f_Dk_goIn_1 : fetch 24 1 = some (.getfield 108) := by decide +kernel
theorem e_Dk_goIn_1 (a0 a1 a2 a3 a4 a5 : AV) (σ : aM) (i : Int) (r : List AV)  : ev 24 1 [a0, a1, a2, a3, a4, a5] (aR 8 i :: r) σ = ev 24 4 [a0, a1, a2, a3, a4, a5] (aI (gI σ 8 i 3) :: r) σ := ev_go f_Dk_goIn_1 rfl
theorem f_Dk_goIn_4 : fetch 24 4 = some (.invokestatic 111) := by decide +kernel
theorem e_Dk_goIn_4 (a0 a1 a2 a3 a4 a5 : AV) (σ : aM) (s0 : Int) : ev 24 4 [a0, a1, a2, a3, a4, a5] [aI s0] σ = evK 24 7 [a0, a1, a2, a3, a4, a5] [] (ev 121 0 [aI s0] [] σ) := ev_call f_Dk_goIn_4 rfl rfl
theorem f_Dk_goIn_7 : fetch 24 7 = some (.istore_n 3) := by decide +kernel
theorem e_Dk_goIn_7 (a0 a1 a3 a4 a5 : AV) (σ : aM) (x : Int) (l2 : Int) (r : List AV)  : ev 24 7 [a0, a1, aI l2, a3, a4, a5] (aI x :: r) σ = ev 24 8 [a0, a1, aI l2, aI x, a4, a5] (r) σ := ev_go f_Dk_goIn_7 rfl
theorem f_Dk_goIn_8 : fetch 24 8 = some (.iconst 0) := by decide +kernel
theorem e_Dk_goIn_8 (a0 a1 a2 a3 a4 a5 : AV) (σ : aM) (r : List AV)  : ev 24 8 [a0, a1, a2, a3, a4, a5] (r) σ = ev 24 9 [a0, a1, a2, a3, a4, a5] (aI 0 :: r) σ := ev_go f_Dk_goIn_8 rfl
theorem f_Dk_goIn_9 : fetch 24 9 = some (.istore 4) := by decide +kernel
theorem e_Dk_goIn_9 (a0 a1 a2 a4 a5 : AV) (σ : aM) (x : Int) (l3 : Int) (r : List AV)  : ev 24 9 [a0, a1, a2, aI l3, a4, a5] (aI x :: r) σ = ev 24 11 [a0, a1, a2, aI l3, aI x, a5] (r) σ := ev_go f_Dk_goIn_9 rfl
theorem f_Dk_goIn_11 : fetch 24 11 = some (.iload 4) := by decide +kernel
theorem e_Dk_goIn_11 (a0 a1 a2 a3 a5 : AV) (σ : aM) (l4 : Int) (r : List AV)  : ev 24 11 [a0, a1, a2, a3, aI l4, a5] (r) σ = ev 24 13 [a0, a1, a2, a3, aI l4, a5] (aI l4 :: r) σ := ev_go f_Dk_goIn_11 rfl
theorem f_Dk_goIn_13 : fetch 24 13 = some (.sipush 1059) := by decide +kernel
theorem e_Dk_goIn_13 (a0 a1 a2 a3 a4 a5 : AV) (σ : aM) (r : List AV)  : ev 24 13 [a0, a1, a2, a3, a4, a5] (r) σ = ev 24 16 [a0, a1, a2, a3, a4, a5] (aI 1059 :: r) σ := ev_go f_Dk_goIn_13 rfl
theorem f_Dk_goIn_16 : fetch 24 16 = some (.if_icmp .ge 85) := by decide +kernel
theorem e_Dk_goIn_16 (a0 a1 a2 a3 a4 a5 : AV) (σ : aM) (x z : Int) (r : List AV) : ev 24 16 [a0, a1, a2, a3, a4, a5] (aI z :: aI x :: r) σ = if z ≤ x then ev 24 101 [a0, a1, a2, a3, a4, a5] r σ else ev 24 19 [a0, a1, a2, a3, a4, a5] r σ := ev_br f_Dk_goIn_16 rfl bc_ge
theorem f_Dk_goIn_19 : fetch 24 19 = some (.aload_n 1) := by decide +kernel
theorem e_Dk_goIn_19 (a0 a2 a3 a4 a5 : AV) (σ : aM) (l1 : Option (Nat × Int)) (r : List AV)  : ev 24 19 [a0, aQ l1, a2, a3, a4, a5] (r) σ = ev 24 20 [a0, aQ l1, a2, a3, a4, a5] (aQ l1 :: r) σ := ev_go f_Dk_goIn_19 rfl
theorem f_Dk_goIn_20 : fetch 24 20 = some (.getfield 39) := by decide +kernel
theorem e_Dk_goIn_20 (a0 a1 a2 a3 a4 a5 : AV) (σ : aM) (i : Int) (r : List AV)  : ev 24 20 [a0, a1, a2, a3, a4, a5] (aR 8 i :: r) σ = ev 24 23 [a0, a1, a2, a3, a4, a5] (aI (gI σ 8 i 5) :: r) σ := ev_go f_Dk_goIn_20 rfl
theorem f_Dk_goIn_23 : fetch 24 23 = some (.iconst 4) := by decide +kernel
theorem e_Dk_goIn_23 (a0 a1 a2 a3 a4 a5 : AV) (σ : aM) (r : List AV)  : ev 24 23 [a0, a1, a2, a3, a4, a5] (r) σ = ev 24 24 [a0, a1, a2, a3, a4, a5] (aI 4 :: r) σ := ev_go f_Dk_goIn_23 rfl
theorem f_Dk_goIn_24 : fetch 24 24 = some (.if_icmp .ne 77) := by decide +kernel
theorem e_Dk_goIn_24 (a0 a1 a2 a3 a4 a5 : AV) (σ : aM) (x z : Int) (r : List AV) : ev 24 24 [a0, a1, a2, a3, a4, a5] (aI z :: aI x :: r) σ = if ¬ x = z then ev 24 101 [a0, a1, a2, a3, a4, a5] r σ else ev 24 27 [a0, a1, a2, a3, a4, a5] r σ := ev_br f_Dk_goIn_24 rfl bc_ne
theorem f_Dk_goIn_27 : fetch 24 27 = some (.aload_n 0) := by decide +kernel
theorem e_Dk_goIn_27 (a1 a2 a3 a4 a5 : AV) (σ : aM) (l0 : Option (Nat × Int)) (r : List AV)  : ev 24 27 [aQ l0, a1, a2, a3, a4, a5] (r) σ = ev 24 28 [aQ l0, a1, a2, a3, a4, a5] (aQ l0 :: r) σ := ev_go f_Dk_goIn_27 rfl
theorem f_Dk_goIn_28 : fetch 24 28 = some (.getfield 12) := by decide +kernel
theorem e_Dk_goIn_28 (a0 a1 a2 a3 a4 a5 : AV) (σ : aM) (i : Int) (r : List AV)  : ev 24 28 [a0, a1, a2, a3, a4, a5] (aR 5 i :: r) σ = ev 24 31 [a0, a1, a2, a3, a4, a5] (aR 6 0 :: r) σ := ev_go f_Dk_goIn_28 rfl
theorem f_Dk_goIn_31 : fetch 24 31 = some (.iload_n 3) := by decide +kernel
theorem e_Dk_goIn_31 (a0 a1 a2 a4 a5 : AV) (σ : aM) (l3 : Int) (r : List AV)  : ev 24 31 [a0, a1, a2, aI l3, a4, a5] (r) σ = ev 24 32 [a0, a1, a2, aI l3, a4, a5] (aI l3 :: r) σ := ev_go f_Dk_goIn_31 rfl
theorem f_Dk_goIn_32 : fetch 24 32 = some (.invokevirtual 81) := by decide +kernel
theorem e_Dk_goIn_32 (a0 a1 a2 a3 a4 a5 : AV) (σ : aM) (s0 : Int) (s1 : Int) : ev 24 32 [a0, a1, a2, a3, a4, a5] [aI s1, aR 6 s0] σ = evK 24 35 [a0, a1, a2, a3, a4, a5] [] (ev 8 0 [aR 6 s0, aI s1, aU, aU, aU] [] σ) := ev_call f_Dk_goIn_32 rfl rfl
theorem f_Dk_goIn_35 : fetch 24 35 = some (.astore 5) := by decide +kernel
theorem e_Dk_goIn_35 (a0 a1 a2 a3 a5 : AV) (σ : aM) (q : Option (Nat × Int)) (l4 : Int) (r : List AV)  : ev 24 35 [a0, a1, a2, a3, aI l4, a5] (aQ q :: r) σ = ev 24 37 [a0, a1, a2, a3, aI l4, aQ q] (r) σ := ev_go f_Dk_goIn_35 rfl
theorem f_Dk_goIn_37 : fetch 24 37 = some (.aload 5) := by decide +kernel
theorem e_Dk_goIn_37 (a0 a1 a2 a3 a4 : AV) (σ : aM) (l5 : Option (Nat × Int)) (r : List AV)  : ev 24 37 [a0, a1, a2, a3, a4, aQ l5] (r) σ = ev 24 39 [a0, a1, a2, a3, a4, aQ l5] (aQ l5 :: r) σ := ev_go f_Dk_goIn_37 rfl
theorem f_Dk_goIn_39 : fetch 24 39 = some (.ifnull 16) := by decide +kernel
theorem e_Dk_goIn_39 (a0 a1 a2 a3 a4 a5 : AV) (σ : aM) (q : Option (Nat × Int)) (r : List AV) : ev 24 39 [a0, a1, a2, a3, a4, a5] (aQ q :: r) σ = if q = none then ev 24 55 [a0, a1, a2, a3, a4, a5] r σ else ev 24 42 [a0, a1, a2, a3, a4, a5] r σ := ev_br f_Dk_goIn_39 rfl bc_non
theorem f_Dk_goIn_42 : fetch 24 42 = some (.aload_n 1) := by decide +kernel
theorem e_Dk_goIn_42 (a0 a2 a3 a4 a5 : AV) (σ : aM) (l1 : Option (Nat × Int)) (r : List AV)  : ev 24 42 [a0, aQ l1, a2, a3, a4, a5] (r) σ = ev 24 43 [a0, aQ l1, a2, a3, a4, a5] (aQ l1 :: r) σ := ev_go f_Dk_goIn_42 rfl
theorem f_Dk_goIn_43 : fetch 24 43 = some (.aload 5) := by decide +kernel
theorem e_Dk_goIn_43 (a0 a1 a2 a3 a4 : AV) (σ : aM) (l5 : Option (Nat × Int)) (r : List AV)  : ev 24 43 [a0, a1, a2, a3, a4, aQ l5] (r) σ = ev 24 45 [a0, a1, a2, a3, a4, aQ l5] (aQ l5 :: r) σ := ev_go f_Dk_goIn_43 rfl
theorem f_Dk_goIn_45 : fetch 24 45 = some (.getfield 75) := by decide +kernel
theorem e_Dk_goIn_45 (a0 a1 a2 a3 a4 a5 : AV) (σ : aM) (i : Int) (r : List AV)  : ev 24 45 [a0, a1, a2, a3, a4, a5] (aR 8 i :: r) σ = ev 24 48 [a0, a1, a2, a3, a4, a5] (aI (gI σ 8 i 7) :: r) σ := ev_go f_Dk_goIn_45 rfl
theorem f_Dk_goIn_48 : fetch 24 48 = some (.iload_n 2) := by decide +kernel
theorem e_Dk_goIn_48 (a0 a1 a3 a4 a5 : AV) (σ : aM) (l2 : Int) (r : List AV)  : ev 24 48 [a0, a1, aI l2, a3, a4, a5] (r) σ = ev 24 49 [a0, a1, aI l2, a3, a4, a5] (aI l2 :: r) σ := ev_go f_Dk_goIn_48 rfl
theorem f_Dk_goIn_49 : fetch 24 49 = some (.invokestatic 130) := by decide +kernel
theorem e_Dk_goIn_49 (a0 a1 a2 a3 a4 a5 : AV) (σ : aM) (s0 : Option (Nat × Int)) (s1 : Int) (s2 : Int) : ev 24 49 [a0, a1, a2, a3, a4, a5] [aI s2, aI s1, aQ s0] σ = evK 24 52 [a0, a1, a2, a3, a4, a5] [] (ev 23 0 [aQ s0, aI s1, aI s2] [] σ) := ev_call f_Dk_goIn_49 rfl rfl
theorem f_Dk_goIn_52 : fetch 24 52 = some (.ifCond .ne 4) := by decide +kernel
theorem e_Dk_goIn_52 (a0 a1 a2 a3 a4 a5 : AV) (σ : aM) (x : Int) (r : List AV) : ev 24 52 [a0, a1, a2, a3, a4, a5] (aI x :: r) σ = if ¬ x = 0 then ev 24 56 [a0, a1, a2, a3, a4, a5] r σ else ev 24 55 [a0, a1, a2, a3, a4, a5] r σ := ev_br f_Dk_goIn_52 rfl bc_ne
theorem f_Dk_goIn_55 : fetch 24 55 = some (.return_) := by decide +kernel
theorem e_Dk_goIn_55 (a0 a1 a2 a3 a4 a5 : AV) (σ : aM)  : ev 24 55 [a0, a1, a2, a3, a4, a5] [] σ = some (none, σ) := ev_ret f_Dk_goIn_55 rfl
theorem f_Dk_goIn_56 : fetch 24 56 = some (.aload 5) := by decide +kernel
theorem e_Dk_goIn_56 (a0 a1 a2 a3 a4 : AV) (σ : aM) (l5 : Option (Nat × Int)) (r : List AV)  : ev 24 56 [a0, a1, a2, a3, a4, aQ l5] (r) σ = ev 24 58 [a0, a1, a2, a3, a4, aQ l5] (aQ l5 :: r) σ := ev_go f_Dk_goIn_56 rfl
theorem f_Dk_goIn_58 : fetch 24 58 = some (.getfield 120) := by decide +kernel
theorem e_Dk_goIn_58 (a0 a1 a2 a3 a4 a5 : AV) (σ : aM) (i : Int) (r : List AV)  : ev 24 58 [a0, a1, a2, a3, a4, a5] (aR 8 i :: r) σ = ev 24 61 [a0, a1, a2, a3, a4, a5] (aI (gI σ 8 i 2) :: r) σ := ev_go f_Dk_goIn_58 rfl
theorem f_Dk_goIn_61 : fetch 24 61 = some (.aload_n 1) := by decide +kernel
theorem e_Dk_goIn_61 (a0 a2 a3 a4 a5 : AV) (σ : aM) (l1 : Option (Nat × Int)) (r : List AV)  : ev 24 61 [a0, aQ l1, a2, a3, a4, a5] (r) σ = ev 24 62 [a0, aQ l1, a2, a3, a4, a5] (aQ l1 :: r) σ := ev_go f_Dk_goIn_61 rfl
theorem f_Dk_goIn_62 : fetch 24 62 = some (.getfield 120) := by decide +kernel
theorem e_Dk_goIn_62 (a0 a1 a2 a3 a4 a5 : AV) (σ : aM) (i : Int) (r : List AV)  : ev 24 62 [a0, a1, a2, a3, a4, a5] (aR 8 i :: r) σ = ev 24 65 [a0, a1, a2, a3, a4, a5] (aI (gI σ 8 i 2) :: r) σ := ev_go f_Dk_goIn_62 rfl
theorem f_Dk_goIn_65 : fetch 24 65 = some (.if_icmp .ne 23) := by decide +kernel
theorem e_Dk_goIn_65 (a0 a1 a2 a3 a4 a5 : AV) (σ : aM) (x z : Int) (r : List AV) : ev 24 65 [a0, a1, a2, a3, a4, a5] (aI z :: aI x :: r) σ = if ¬ x = z then ev 24 88 [a0, a1, a2, a3, a4, a5] r σ else ev 24 68 [a0, a1, a2, a3, a4, a5] r σ := ev_br f_Dk_goIn_65 rfl bc_ne
theorem f_Dk_goIn_68 : fetch 24 68 = some (.aload_n 0) := by decide +kernel
theorem e_Dk_goIn_68 (a1 a2 a3 a4 a5 : AV) (σ : aM) (l0 : Option (Nat × Int)) (r : List AV)  : ev 24 68 [aQ l0, a1, a2, a3, a4, a5] (r) σ = ev 24 69 [aQ l0, a1, a2, a3, a4, a5] (aQ l0 :: r) σ := ev_go f_Dk_goIn_68 rfl
theorem f_Dk_goIn_69 : fetch 24 69 = some (.getfield 12) := by decide +kernel
theorem e_Dk_goIn_69 (a0 a1 a2 a3 a4 a5 : AV) (σ : aM) (i : Int) (r : List AV)  : ev 24 69 [a0, a1, a2, a3, a4, a5] (aR 5 i :: r) σ = ev 24 72 [a0, a1, a2, a3, a4, a5] (aR 6 0 :: r) σ := ev_go f_Dk_goIn_69 rfl
theorem f_Dk_goIn_72 : fetch 24 72 = some (.getfield 117) := by decide +kernel
theorem e_Dk_goIn_72 (a0 a1 a2 a3 a4 a5 : AV) (σ : aM) (i : Int) (r : List AV)  : ev 24 72 [a0, a1, a2, a3, a4, a5] (aR 6 i :: r) σ = ev 24 75 [a0, a1, a2, a3, a4, a5] (aI (gI σ 6 i 4) :: r) σ := ev_go f_Dk_goIn_72 rfl
theorem f_Dk_goIn_75 : fetch 24 75 = some (.ifCond .eq 13) := by decide +kernel
theorem e_Dk_goIn_75 (a0 a1 a2 a3 a4 a5 : AV) (σ : aM) (x : Int) (r : List AV) : ev 24 75 [a0, a1, a2, a3, a4, a5] (aI x :: r) σ = if x = 0 then ev 24 88 [a0, a1, a2, a3, a4, a5] r σ else ev 24 78 [a0, a1, a2, a3, a4, a5] r σ := ev_br f_Dk_goIn_75 rfl bc_eq
theorem f_Dk_goIn_78 : fetch 24 78 = some (.aload_n 0) := by decide +kernel
theorem e_Dk_goIn_78 (a1 a2 a3 a4 a5 : AV) (σ : aM) (l0 : Option (Nat × Int)) (r : List AV)  : ev 24 78 [aQ l0, a1, a2, a3, a4, a5] (r) σ = ev 24 79 [aQ l0, a1, a2, a3, a4, a5] (aQ l0 :: r) σ := ev_go f_Dk_goIn_78 rfl
theorem f_Dk_goIn_79 : fetch 24 79 = some (.aload_n 1) := by decide +kernel
theorem e_Dk_goIn_79 (a0 a2 a3 a4 a5 : AV) (σ : aM) (l1 : Option (Nat × Int)) (r : List AV)  : ev 24 79 [a0, aQ l1, a2, a3, a4, a5] (r) σ = ev 24 80 [a0, aQ l1, a2, a3, a4, a5] (aQ l1 :: r) σ := ev_go f_Dk_goIn_79 rfl
theorem f_Dk_goIn_80 : fetch 24 80 = some (.aload 5) := by decide +kernel
theorem e_Dk_goIn_80 (a0 a1 a2 a3 a4 : AV) (σ : aM) (l5 : Option (Nat × Int)) (r : List AV)  : ev 24 80 [a0, a1, a2, a3, a4, aQ l5] (r) σ = ev 24 82 [a0, a1, a2, a3, a4, aQ l5] (aQ l5 :: r) σ := ev_go f_Dk_goIn_80 rfl
theorem f_Dk_goIn_82 : fetch 24 82 = some (.invokevirtual 134) := by decide +kernel
theorem e_Dk_goIn_82 (a0 a1 a2 a3 a4 a5 : AV) (σ : aM) (s0 : Int) (s1 : Option (Nat × Int)) (s2 : Option (Nat × Int)) : ev 24 82 [a0, a1, a2, a3, a4, a5] [aQ s2, aQ s1, aR 5 s0] σ = evK 24 85 [a0, a1, a2, a3, a4, a5] [] (ev 28 0 [aR 5 s0, aQ s1, aQ s2, aU] [] σ) := ev_call f_Dk_goIn_82 rfl rfl
theorem f_Dk_goIn_85 : fetch 24 85 = some (.goto 10) := by decide +kernel
theorem e_Dk_goIn_85 (a0 a1 a2 a3 a4 a5 : AV) (σ : aM) (r : List AV)  : ev 24 85 [a0, a1, a2, a3, a4, a5] (r) σ = ev 24 95 [a0, a1, a2, a3, a4, a5] (r) σ := ev_go f_Dk_goIn_85 rfl
theorem f_Dk_goIn_88 : fetch 24 88 = some (.aload_n 0) := by decide +kernel
theorem e_Dk_goIn_88 (a1 a2 a3 a4 a5 : AV) (σ : aM) (l0 : Option (Nat × Int)) (r : List AV)  : ev 24 88 [aQ l0, a1, a2, a3, a4, a5] (r) σ = ev 24 89 [aQ l0, a1, a2, a3, a4, a5] (aQ l0 :: r) σ := ev_go f_Dk_goIn_88 rfl
theorem f_Dk_goIn_89 : fetch 24 89 = some (.aload_n 1) := by decide +kernel
theorem e_Dk_goIn_89 (a0 a2 a3 a4 a5 : AV) (σ : aM) (l1 : Option (Nat × Int)) (r : List AV)  : ev 24 89 [a0, aQ l1, a2, a3, a4, a5] (r) σ = ev 24 90 [a0, aQ l1, a2, a3, a4, a5] (aQ l1 :: r) σ := ev_go f_Dk_goIn_89 rfl
theorem f_Dk_goIn_90 : fetch 24 90 = some (.aload 5) := by decide +kernel
theorem e_Dk_goIn_90 (a0 a1 a2 a3 a4 : AV) (σ : aM) (l5 : Option (Nat × Int)) (r : List AV)  : ev 24 90 [a0, a1, a2, a3, a4, aQ l5] (r) σ = ev 24 92 [a0, a1, a2, a3, a4, aQ l5] (aQ l5 :: r) σ := ev_go f_Dk_goIn_90 rfl
theorem f_Dk_goIn_92 : fetch 24 92 = some (.invokevirtual 138) := by decide +kernel
theorem e_Dk_goIn_92 (a0 a1 a2 a3 a4 a5 : AV) (σ : aM) (s0 : Int) (s1 : Option (Nat × Int)) (s2 : Option (Nat × Int)) : ev 24 92 [a0, a1, a2, a3, a4, a5] [aQ s2, aQ s1, aR 5 s0] σ = evK 24 95 [a0, a1, a2, a3, a4, a5] [] (ev 25 0 [aR 5 s0, aQ s1, aQ s2, aU] [] σ) := ev_call f_Dk_goIn_92 rfl rfl
theorem f_Dk_goIn_95 : fetch 24 95 = some (.iinc 4 1) := by decide +kernel
theorem e_Dk_goIn_95 (a0 a1 a2 a5 : AV) (σ : aM) (l4 : Int) (l3 : Int) (r : List AV)  : ev 24 95 [a0, a1, a2, aI l3, aI l4, a5] (r) σ = ev 24 98 [a0, a1, a2, aI l3, aI (wr (l4 + 1)), a5] (r) σ := ev_go f_Dk_goIn_95 rfl
theorem f_Dk_goIn_98 : fetch 24 98 = some (.goto (-87)) := by decide +kernel
theorem e_Dk_goIn_98 (a0 a1 a2 a3 a4 a5 : AV) (σ : aM) (r : List AV)  : ev 24 98 [a0, a1, a2, a3, a4, a5] (r) σ = ev 24 11 [a0, a1, a2, a3, a4, a5] (r) σ := ev_go f_Dk_goIn_98 rfl
theorem f_Dk_goIn_101 : fetch 24 101 = some (.return_) := by decide +kernel
theorem e_Dk_goIn_101 (a0 a1 a2 a3 a4 a5 : AV) (σ : aM)  : ev 24 101 [a0, a1, a2, a3, a4, a5] [] σ = some (none, σ) := ev_ret f_Dk_goIn_101 rfl
theorem f_Dk_meet_0 : fetch 25 0 = some (.aload_n 1) := by decide +kernel
theorem e_Dk_meet_0 (a0 a2 a3 : AV) (σ : aM) (l1 : Option (Nat × Int)) (r : List AV)  : ev 25 0 [a0, aQ l1, a2, a3] (r) σ = ev 25 1 [a0, aQ l1, a2, a3] (aQ l1 :: r) σ := ev_go f_Dk_meet_0 rfl
theorem f_Dk_meet_1 : fetch 25 1 = some (.getfield 72) := by decide +kernel
theorem e_Dk_meet_1 (a0 a1 a2 a3 : AV) (σ : aM) (i : Int) (r : List AV)  : ev 25 1 [a0, a1, a2, a3] (aR 8 i :: r) σ = ev 25 4 [a0, a1, a2, a3] (aI (gI σ 8 i 4) :: r) σ := ev_go f_Dk_meet_1 rfl
theorem f_Dk_meet_4 : fetch 25 4 = some (.aload_n 2) := by decide +kernel
theorem e_Dk_meet_4 (a0 a1 a3 : AV) (σ : aM) (l2 : Option (Nat × Int)) (r : List AV)  : ev 25 4 [a0, a1, aQ l2, a3] (r) σ = ev 25 5 [a0, a1, aQ l2, a3] (aQ l2 :: r) σ := ev_go f_Dk_meet_4 rfl
theorem f_Dk_meet_5 : fetch 25 5 = some (.invokevirtual 141) := by decide +kernel
theorem e_Dk_meet_5 (a0 a1 a2 a3 : AV) (σ : aM) (s0 : Int) (s1 : Int) : ev 25 5 [a0, a1, a2, a3] [aR 8 s1, aI s0] σ = evK 25 8 [a0, a1, a2, a3] [aI s0] (ev 39 0 [aR 8 s1] [] σ) := ev_call f_Dk_meet_5 rfl rfl
theorem f_Dk_meet_8 : fetch 25 8 = some (.invokestatic 85) := by decide +kernel
theorem e_Dk_meet_8 (a0 a1 a2 a3 : AV) (σ : aM) (s0 : Int) (s1 : Int) : ev 25 8 [a0, a1, a2, a3] [aI s1, aI s0] σ = ev 25 11 [a0, a1, a2, a3] (aI (if s1 < s0 then s1 else s0) :: []) σ := ev_go f_Dk_meet_8 rfl
theorem f_Dk_meet_11 : fetch 25 11 = some (.istore_n 3) := by decide +kernel
theorem e_Dk_meet_11 (a0 a1 a3 : AV) (σ : aM) (x : Int) (l2 : Option (Nat × Int)) (r : List AV)  : ev 25 11 [a0, a1, aQ l2, a3] (aI x :: r) σ = ev 25 12 [a0, a1, aQ l2, aI x] (r) σ := ev_go f_Dk_meet_11 rfl
theorem f_Dk_meet_12 : fetch 25 12 = some (.aload_n 1) := by decide +kernel
theorem e_Dk_meet_12 (a0 a2 a3 : AV) (σ : aM) (l1 : Option (Nat × Int)) (r : List AV)  : ev 25 12 [a0, aQ l1, a2, a3] (r) σ = ev 25 13 [a0, aQ l1, a2, a3] (aQ l1 :: r) σ := ev_go f_Dk_meet_12 rfl
theorem f_Dk_meet_13 : fetch 25 13 = some (.getfield 108) := by decide +kernel
theorem e_Dk_meet_13 (a0 a1 a2 a3 : AV) (σ : aM) (i : Int) (r : List AV)  : ev 25 13 [a0, a1, a2, a3] (aR 8 i :: r) σ = ev 25 16 [a0, a1, a2, a3] (aI (gI σ 8 i 3) :: r) σ := ev_go f_Dk_meet_13 rfl
theorem f_Dk_meet_16 : fetch 25 16 = some (.ifCond .ne 17) := by decide +kernel
theorem e_Dk_meet_16 (a0 a1 a2 a3 : AV) (σ : aM) (x : Int) (r : List AV) : ev 25 16 [a0, a1, a2, a3] (aI x :: r) σ = if ¬ x = 0 then ev 25 33 [a0, a1, a2, a3] r σ else ev 25 19 [a0, a1, a2, a3] r σ := ev_br f_Dk_meet_16 rfl bc_ne
theorem f_Dk_meet_19 : fetch 25 19 = some (.aload_n 0) := by decide +kernel
theorem e_Dk_meet_19 (a1 a2 a3 : AV) (σ : aM) (l0 : Option (Nat × Int)) (r : List AV)  : ev 25 19 [aQ l0, a1, a2, a3] (r) σ = ev 25 20 [aQ l0, a1, a2, a3] (aQ l0 :: r) σ := ev_go f_Dk_meet_19 rfl
theorem f_Dk_meet_20 : fetch 25 20 = some (.aload_n 1) := by decide +kernel
theorem e_Dk_meet_20 (a0 a2 a3 : AV) (σ : aM) (l1 : Option (Nat × Int)) (r : List AV)  : ev 25 20 [a0, aQ l1, a2, a3] (r) σ = ev 25 21 [a0, aQ l1, a2, a3] (aQ l1 :: r) σ := ev_go f_Dk_meet_20 rfl
theorem f_Dk_meet_21 : fetch 25 21 = some (.aload_n 2) := by decide +kernel
theorem e_Dk_meet_21 (a0 a1 a3 : AV) (σ : aM) (l2 : Option (Nat × Int)) (r : List AV)  : ev 25 21 [a0, a1, aQ l2, a3] (r) σ = ev 25 22 [a0, a1, aQ l2, a3] (aQ l2 :: r) σ := ev_go f_Dk_meet_21 rfl
theorem f_Dk_meet_22 : fetch 25 22 = some (.aload_n 2) := by decide +kernel
theorem e_Dk_meet_22 (a0 a1 a3 : AV) (σ : aM) (l2 : Option (Nat × Int)) (r : List AV)  : ev 25 22 [a0, a1, aQ l2, a3] (r) σ = ev 25 23 [a0, a1, aQ l2, a3] (aQ l2 :: r) σ := ev_go f_Dk_meet_22 rfl
theorem f_Dk_meet_23 : fetch 25 23 = some (.getfield 75) := by decide +kernel
theorem e_Dk_meet_23 (a0 a1 a2 a3 : AV) (σ : aM) (i : Int) (r : List AV)  : ev 25 23 [a0, a1, a2, a3] (aR 8 i :: r) σ = ev 25 26 [a0, a1, a2, a3] (aI (gI σ 8 i 7) :: r) σ := ev_go f_Dk_meet_23 rfl
theorem f_Dk_meet_26 : fetch 25 26 = some (.iload_n 3) := by decide +kernel
theorem e_Dk_meet_26 (a0 a1 a2 : AV) (σ : aM) (l3 : Int) (r : List AV)  : ev 25 26 [a0, a1, a2, aI l3] (r) σ = ev 25 27 [a0, a1, a2, aI l3] (aI l3 :: r) σ := ev_go f_Dk_meet_26 rfl
theorem f_Dk_meet_27 : fetch 25 27 = some (.invokevirtual 91) := by decide +kernel
theorem e_Dk_meet_27 (a0 a1 a2 a3 : AV) (σ : aM) (s0 : Int) (s1 : Option (Nat × Int)) (s2 : Option (Nat × Int)) (s3 : Int) (s4 : Int) : ev 25 27 [a0, a1, a2, a3] [aI s4, aI s3, aQ s2, aQ s1, aR 5 s0] σ = evK 25 30 [a0, a1, a2, a3] [] (ev 27 0 [aR 5 s0, aQ s1, aQ s2, aI s3, aI s4] [] σ) := ev_call f_Dk_meet_27 rfl rfl
theorem f_Dk_meet_30 : fetch 25 30 = some (.goto 14) := by decide +kernel
theorem e_Dk_meet_30 (a0 a1 a2 a3 : AV) (σ : aM) (r : List AV)  : ev 25 30 [a0, a1, a2, a3] (r) σ = ev 25 44 [a0, a1, a2, a3] (r) σ := ev_go f_Dk_meet_30 rfl
theorem f_Dk_meet_33 : fetch 25 33 = some (.aload_n 0) := by decide +kernel
theorem e_Dk_meet_33 (a1 a2 a3 : AV) (σ : aM) (l0 : Option (Nat × Int)) (r : List AV)  : ev 25 33 [aQ l0, a1, a2, a3] (r) σ = ev 25 34 [aQ l0, a1, a2, a3] (aQ l0 :: r) σ := ev_go f_Dk_meet_33 rfl
theorem f_Dk_meet_34 : fetch 25 34 = some (.aload_n 2) := by decide +kernel
theorem e_Dk_meet_34 (a0 a1 a3 : AV) (σ : aM) (l2 : Option (Nat × Int)) (r : List AV)  : ev 25 34 [a0, a1, aQ l2, a3] (r) σ = ev 25 35 [a0, a1, aQ l2, a3] (aQ l2 :: r) σ := ev_go f_Dk_meet_34 rfl
theorem f_Dk_meet_35 : fetch 25 35 = some (.aload_n 1) := by decide +kernel
theorem e_Dk_meet_35 (a0 a2 a3 : AV) (σ : aM) (l1 : Option (Nat × Int)) (r : List AV)  : ev 25 35 [a0, aQ l1, a2, a3] (r) σ = ev 25 36 [a0, aQ l1, a2, a3] (aQ l1 :: r) σ := ev_go f_Dk_meet_35 rfl
theorem f_Dk_meet_36 : fetch 25 36 = some (.aload_n 2) := by decide +kernel
theorem e_Dk_meet_36 (a0 a1 a3 : AV) (σ : aM) (l2 : Option (Nat × Int)) (r : List AV)  : ev 25 36 [a0, a1, aQ l2, a3] (r) σ = ev 25 37 [a0, a1, aQ l2, a3] (aQ l2 :: r) σ := ev_go f_Dk_meet_36 rfl
theorem f_Dk_meet_37 : fetch 25 37 = some (.getfield 75) := by decide +kernel
theorem e_Dk_meet_37 (a0 a1 a2 a3 : AV) (σ : aM) (i : Int) (r : List AV)  : ev 25 37 [a0, a1, a2, a3] (aR 8 i :: r) σ = ev 25 40 [a0, a1, a2, a3] (aI (gI σ 8 i 7) :: r) σ := ev_go f_Dk_meet_37 rfl
theorem f_Dk_meet_40 : fetch 25 40 = some (.iload_n 3) := by decide +kernel
theorem e_Dk_meet_40 (a0 a1 a2 : AV) (σ : aM) (l3 : Int) (r : List AV)  : ev 25 40 [a0, a1, a2, aI l3] (r) σ = ev 25 41 [a0, a1, a2, aI l3] (aI l3 :: r) σ := ev_go f_Dk_meet_40 rfl
theorem f_Dk_meet_41 : fetch 25 41 = some (.invokevirtual 91) := by decide +kernel
theorem e_Dk_meet_41 (a0 a1 a2 a3 : AV) (σ : aM) (s0 : Int) (s1 : Option (Nat × Int)) (s2 : Option (Nat × Int)) (s3 : Int) (s4 : Int) : ev 25 41 [a0, a1, a2, a3] [aI s4, aI s3, aQ s2, aQ s1, aR 5 s0] σ = evK 25 44 [a0, a1, a2, a3] [] (ev 27 0 [aR 5 s0, aQ s1, aQ s2, aI s3, aI s4] [] σ) := ev_call f_Dk_meet_41 rfl rfl
theorem f_Dk_meet_44 : fetch 25 44 = some (.aload_n 2) := by decide +kernel
theorem e_Dk_meet_44 (a0 a1 a3 : AV) (σ : aM) (l2 : Option (Nat × Int)) (r : List AV)  : ev 25 44 [a0, a1, aQ l2, a3] (r) σ = ev 25 45 [a0, a1, aQ l2, a3] (aQ l2 :: r) σ := ev_go f_Dk_meet_44 rfl
theorem f_Dk_meet_45 : fetch 25 45 = some (.getfield 69) := by decide +kernel
theorem e_Dk_meet_45 (a0 a1 a2 a3 : AV) (σ : aM) (i : Int) (r : List AV)  : ev 25 45 [a0, a1, a2, a3] (aR 8 i :: r) σ = ev 25 48 [a0, a1, a2, a3] (aI (gI σ 8 i 1) :: r) σ := ev_go f_Dk_meet_45 rfl
theorem f_Dk_meet_48 : fetch 25 48 = some (.iconst 2) := by decide +kernel
theorem e_Dk_meet_48 (a0 a1 a2 a3 : AV) (σ : aM) (r : List AV)  : ev 25 48 [a0, a1, a2, a3] (r) σ = ev 25 49 [a0, a1, a2, a3] (aI 2 :: r) σ := ev_go f_Dk_meet_48 rfl
theorem f_Dk_meet_49 : fetch 25 49 = some (.if_icmp .ne 17) := by decide +kernel
theorem e_Dk_meet_49 (a0 a1 a2 a3 : AV) (σ : aM) (x z : Int) (r : List AV) : ev 25 49 [a0, a1, a2, a3] (aI z :: aI x :: r) σ = if ¬ x = z then ev 25 66 [a0, a1, a2, a3] r σ else ev 25 52 [a0, a1, a2, a3] r σ := ev_br f_Dk_meet_49 rfl bc_ne
theorem f_Dk_meet_52 : fetch 25 52 = some (.aload_n 2) := by decide +kernel
theorem e_Dk_meet_52 (a0 a1 a3 : AV) (σ : aM) (l2 : Option (Nat × Int)) (r : List AV)  : ev 25 52 [a0, a1, aQ l2, a3] (r) σ = ev 25 53 [a0, a1, aQ l2, a3] (aQ l2 :: r) σ := ev_go f_Dk_meet_52 rfl
theorem f_Dk_meet_53 : fetch 25 53 = some (.getfield 39) := by decide +kernel
theorem e_Dk_meet_53 (a0 a1 a2 a3 : AV) (σ : aM) (i : Int) (r : List AV)  : ev 25 53 [a0, a1, a2, a3] (aR 8 i :: r) σ = ev 25 56 [a0, a1, a2, a3] (aI (gI σ 8 i 5) :: r) σ := ev_go f_Dk_meet_53 rfl
theorem f_Dk_meet_56 : fetch 25 56 = some (.iconst 1) := by decide +kernel
theorem e_Dk_meet_56 (a0 a1 a2 a3 : AV) (σ : aM) (r : List AV)  : ev 25 56 [a0, a1, a2, a3] (r) σ = ev 25 57 [a0, a1, a2, a3] (aI 1 :: r) σ := ev_go f_Dk_meet_56 rfl
theorem f_Dk_meet_57 : fetch 25 57 = some (.if_icmp .ne 9) := by decide +kernel
theorem e_Dk_meet_57 (a0 a1 a2 a3 : AV) (σ : aM) (x z : Int) (r : List AV) : ev 25 57 [a0, a1, a2, a3] (aI z :: aI x :: r) σ = if ¬ x = z then ev 25 66 [a0, a1, a2, a3] r σ else ev 25 60 [a0, a1, a2, a3] r σ := ev_br f_Dk_meet_57 rfl bc_ne
theorem f_Dk_meet_60 : fetch 25 60 = some (.aload_n 0) := by decide +kernel
theorem e_Dk_meet_60 (a1 a2 a3 : AV) (σ : aM) (l0 : Option (Nat × Int)) (r : List AV)  : ev 25 60 [aQ l0, a1, a2, a3] (r) σ = ev 25 61 [aQ l0, a1, a2, a3] (aQ l0 :: r) σ := ev_go f_Dk_meet_60 rfl
theorem f_Dk_meet_61 : fetch 25 61 = some (.aload_n 2) := by decide +kernel
theorem e_Dk_meet_61 (a0 a1 a3 : AV) (σ : aM) (l2 : Option (Nat × Int)) (r : List AV)  : ev 25 61 [a0, a1, aQ l2, a3] (r) σ = ev 25 62 [a0, a1, aQ l2, a3] (aQ l2 :: r) σ := ev_go f_Dk_meet_61 rfl
theorem f_Dk_meet_62 : fetch 25 62 = some (.iload_n 3) := by decide +kernel
theorem e_Dk_meet_62 (a0 a1 a2 : AV) (σ : aM) (l3 : Int) (r : List AV)  : ev 25 62 [a0, a1, a2, aI l3] (r) σ = ev 25 63 [a0, a1, a2, aI l3] (aI l3 :: r) σ := ev_go f_Dk_meet_62 rfl
theorem f_Dk_meet_63 : fetch 25 63 = some (.invokevirtual 145) := by decide +kernel
theorem e_Dk_meet_63 (a0 a1 a2 a3 : AV) (σ : aM) (s0 : Int) (s1 : Option (Nat × Int)) (s2 : Int) : ev 25 63 [a0, a1, a2, a3] [aI s2, aQ s1, aR 5 s0] σ = evK 25 66 [a0, a1, a2, a3] [] (ev 26 0 [aR 5 s0, aQ s1, aI s2] [] σ) := ev_call f_Dk_meet_63 rfl rfl
theorem f_Dk_meet_66 : fetch 25 66 = some (.return_) := by decide +kernel
theorem e_Dk_meet_66 (a0 a1 a2 a3 : AV) (σ : aM)  : ev 25 66 [a0, a1, a2, a3] [] σ = some (none, σ) := ev_ret f_Dk_meet_66 rfl
theorem f_Dk_comeRound_0 : fetch 26 0 = some (.aload_n 1) := by decide +kernel
theorem e_Dk_comeRound_0 (a0 a2 : AV) (σ : aM) (l1 : Option (Nat × Int)) (r : List AV)  : ev 26 0 [a0, aQ l1, a2] (r) σ = ev 26 1 [a0, aQ l1, a2] (aQ l1 :: r) σ := ev_go f_Dk_comeRound_0 rfl
theorem f_Dk_comeRound_1 : fetch 26 1 = some (.dup) := by decide +kernel
theorem e_Dk_comeRound_1 (a0 a1 a2 : AV) (σ : aM) (x : Option (Nat × Int)) (r : List AV)  : ev 26 1 [a0, a1, a2] (aQ x :: r) σ = ev 26 2 [a0, a1, a2] (aQ x :: aQ x :: r) σ := ev_go f_Dk_comeRound_1 rfl
theorem f_Dk_comeRound_2 : fetch 26 2 = some (.getfield 148) := by decide +kernel
theorem e_Dk_comeRound_2 (a0 a1 a2 : AV) (σ : aM) (i : Int) (r : List AV)  : ev 26 2 [a0, a1, a2] (aR 8 i :: r) σ = ev 26 5 [a0, a1, a2] (aI (gI σ 8 i 9) :: r) σ := ev_go f_Dk_comeRound_2 rfl
theorem f_Dk_comeRound_5 : fetch 26 5 = some (.iload_n 2) := by decide +kernel
theorem e_Dk_comeRound_5 (a0 a1 : AV) (σ : aM) (l2 : Int) (r : List AV)  : ev 26 5 [a0, a1, aI l2] (r) σ = ev 26 6 [a0, a1, aI l2] (aI l2 :: r) σ := ev_go f_Dk_comeRound_5 rfl
theorem f_Dk_comeRound_6 : fetch 26 6 = some (.isub) := by decide +kernel
theorem e_Dk_comeRound_6 (a0 a1 a2 : AV) (σ : aM) (x z : Int) (r : List AV)  : ev 26 6 [a0, a1, a2] (aI z :: aI x :: r) σ = ev 26 7 [a0, a1, a2] (aI (wr (x - z)) :: r) σ := ev_go f_Dk_comeRound_6 rfl
theorem f_Dk_comeRound_7 : fetch 26 7 = some (.putfield 148) := by decide +kernel
theorem e_Dk_comeRound_7 (a0 a1 a2 : AV) (σ : aM) (i : Int) (x : Int) (r : List AV)  : ev 26 7 [a0, a1, a2] (aI x :: aR 8 i :: r) σ = ev 26 10 [a0, a1, a2] (r) (uI σ 8 i 9 x) := ev_go f_Dk_comeRound_7 rfl
theorem f_Dk_comeRound_10 : fetch 26 10 = some (.aload_n 1) := by decide +kernel
theorem e_Dk_comeRound_10 (a0 a2 : AV) (σ : aM) (l1 : Option (Nat × Int)) (r : List AV)  : ev 26 10 [a0, aQ l1, a2] (r) σ = ev 26 11 [a0, aQ l1, a2] (aQ l1 :: r) σ := ev_go f_Dk_comeRound_10 rfl
theorem f_Dk_comeRound_11 : fetch 26 11 = some (.getfield 148) := by decide +kernel
theorem e_Dk_comeRound_11 (a0 a1 a2 : AV) (σ : aM) (i : Int) (r : List AV)  : ev 26 11 [a0, a1, a2] (aR 8 i :: r) σ = ev 26 14 [a0, a1, a2] (aI (gI σ 8 i 9) :: r) σ := ev_go f_Dk_comeRound_11 rfl
theorem f_Dk_comeRound_14 : fetch 26 14 = some (.ifCond .gt 15) := by decide +kernel
theorem e_Dk_comeRound_14 (a0 a1 a2 : AV) (σ : aM) (x : Int) (r : List AV) : ev 26 14 [a0, a1, a2] (aI x :: r) σ = if 0 < x then ev 26 29 [a0, a1, a2] r σ else ev 26 17 [a0, a1, a2] r σ := ev_br f_Dk_comeRound_14 rfl bc_gt
theorem f_Dk_comeRound_17 : fetch 26 17 = some (.aload_n 1) := by decide +kernel
theorem e_Dk_comeRound_17 (a0 a2 : AV) (σ : aM) (l1 : Option (Nat × Int)) (r : List AV)  : ev 26 17 [a0, aQ l1, a2] (r) σ = ev 26 18 [a0, aQ l1, a2] (aQ l1 :: r) σ := ev_go f_Dk_comeRound_17 rfl
theorem f_Dk_comeRound_18 : fetch 26 18 = some (.invokevirtual 95) := by decide +kernel
theorem e_Dk_comeRound_18 (a0 a1 a2 : AV) (σ : aM) (s0 : Int) : ev 26 18 [a0, a1, a2] [aR 8 s0] σ = evK 26 21 [a0, a1, a2] [] (ev 44 0 [aR 8 s0] [] σ) := ev_call f_Dk_comeRound_18 rfl rfl
theorem f_Dk_comeRound_21 : fetch 26 21 = some (.aload_n 0) := by decide +kernel
theorem e_Dk_comeRound_21 (a1 a2 : AV) (σ : aM) (l0 : Option (Nat × Int)) (r : List AV)  : ev 26 21 [aQ l0, a1, a2] (r) σ = ev 26 22 [aQ l0, a1, a2] (aQ l0 :: r) σ := ev_go f_Dk_comeRound_21 rfl
theorem f_Dk_comeRound_22 : fetch 26 22 = some (.getfield 12) := by decide +kernel
theorem e_Dk_comeRound_22 (a0 a1 a2 : AV) (σ : aM) (i : Int) (r : List AV)  : ev 26 22 [a0, a1, a2] (aR 5 i :: r) σ = ev 26 25 [a0, a1, a2] (aR 6 0 :: r) σ := ev_go f_Dk_comeRound_22 rfl
theorem f_Dk_comeRound_25 : fetch 26 25 = some (.aload_n 1) := by decide +kernel
theorem e_Dk_comeRound_25 (a0 a2 : AV) (σ : aM) (l1 : Option (Nat × Int)) (r : List AV)  : ev 26 25 [a0, aQ l1, a2] (r) σ = ev 26 26 [a0, aQ l1, a2] (aQ l1 :: r) σ := ev_go f_Dk_comeRound_25 rfl
theorem f_Dk_comeRound_26 : fetch 26 26 = some (.invokevirtual 151) := by decide +kernel
theorem e_Dk_comeRound_26 (a0 a1 a2 : AV) (σ : aM) (s0 : Int) (s1 : Option (Nat × Int)) : ev 26 26 [a0, a1, a2] [aQ s1, aR 6 s0] σ = evK 26 29 [a0, a1, a2] [] (ev 6 0 [aR 6 s0, aQ s1] [] σ) := ev_call f_Dk_comeRound_26 rfl rfl
theorem f_Dk_comeRound_29 : fetch 26 29 = some (.return_) := by decide +kernel
theorem e_Dk_comeRound_29 (a0 a1 a2 : AV) (σ : aM)  : ev 26 29 [a0, a1, a2] [] σ = some (none, σ) := ev_ret f_Dk_comeRound_29 rfl
theorem f_Dk_tradeAway_0 : fetch 27 0 = some (.aload_n 0) := by decide +kernel
theorem e_Dk_tradeAway_0 (a1 a2 a3 a4 : AV) (σ : aM) (l0 : Option (Nat × Int)) (r : List AV)  : ev 27 0 [aQ l0, a1, a2, a3, a4] (r) σ = ev 27 1 [aQ l0, a1, a2, a3, a4] (aQ l0 :: r) σ := ev_go f_Dk_tradeAway_0 rfl
theorem f_Dk_tradeAway_1 : fetch 27 1 = some (.getfield 12) := by decide +kernel
theorem e_Dk_tradeAway_1 (a0 a1 a2 a3 a4 : AV) (σ : aM) (i : Int) (r : List AV)  : ev 27 1 [a0, a1, a2, a3, a4] (aR 5 i :: r) σ = ev 27 4 [a0, a1, a2, a3, a4] (aR 6 0 :: r) σ := ev_go f_Dk_tradeAway_1 rfl
theorem f_Dk_tradeAway_4 : fetch 27 4 = some (.getfield 154) := by decide +kernel
theorem e_Dk_tradeAway_4 (a0 a1 a2 a3 a4 : AV) (σ : aM) (i : Int) (r : List AV)  : ev 27 4 [a0, a1, a2, a3, a4] (aR 6 i :: r) σ = ev 27 7 [a0, a1, a2, a3, a4] (aR 9 i :: r) σ := ev_go f_Dk_tradeAway_4 rfl
theorem f_Dk_tradeAway_7 : fetch 27 7 = some (.aload_n 1) := by decide +kernel
theorem e_Dk_tradeAway_7 (a0 a2 a3 a4 : AV) (σ : aM) (l1 : Option (Nat × Int)) (r : List AV)  : ev 27 7 [a0, aQ l1, a2, a3, a4] (r) σ = ev 27 8 [a0, aQ l1, a2, a3, a4] (aQ l1 :: r) σ := ev_go f_Dk_tradeAway_7 rfl
theorem f_Dk_tradeAway_8 : fetch 27 8 = some (.aload_n 2) := by decide +kernel
theorem e_Dk_tradeAway_8 (a0 a1 a3 a4 : AV) (σ : aM) (l2 : Option (Nat × Int)) (r : List AV)  : ev 27 8 [a0, a1, aQ l2, a3, a4] (r) σ = ev 27 9 [a0, a1, aQ l2, a3, a4] (aQ l2 :: r) σ := ev_go f_Dk_tradeAway_8 rfl
theorem f_Dk_tradeAway_9 : fetch 27 9 = some (.iload_n 3) := by decide +kernel
theorem e_Dk_tradeAway_9 (a0 a1 a2 a4 : AV) (σ : aM) (l3 : Int) (r : List AV)  : ev 27 9 [a0, a1, a2, aI l3, a4] (r) σ = ev 27 10 [a0, a1, a2, aI l3, a4] (aI l3 :: r) σ := ev_go f_Dk_tradeAway_9 rfl
theorem f_Dk_tradeAway_10 : fetch 27 10 = some (.iload 4) := by decide +kernel
theorem e_Dk_tradeAway_10 (a0 a1 a2 a3 : AV) (σ : aM) (l4 : Int) (r : List AV)  : ev 27 10 [a0, a1, a2, a3, aI l4] (r) σ = ev 27 12 [a0, a1, a2, a3, aI l4] (aI l4 :: r) σ := ev_go f_Dk_tradeAway_10 rfl
theorem f_Dk_tradeAway_12 : fetch 27 12 = some (.invokevirtual 158) := by decide +kernel
theorem e_Dk_tradeAway_12 (a0 a1 a2 a3 a4 : AV) (σ : aM) (s0 : Int) (s1 : Option (Nat × Int)) (s2 : Option (Nat × Int)) (s3 : Int) (s4 : Int) : ev 27 12 [a0, a1, a2, a3, a4] [aI s4, aI s3, aQ s2, aQ s1, aR 9 s0] σ = evK 27 15 [a0, a1, a2, a3, a4] [] (ev 73 0 [aR 9 s0, aQ s1, aQ s2, aI s3, aI s4, aU] [] σ) := ev_call f_Dk_tradeAway_12 rfl rfl
theorem f_Dk_tradeAway_15 : fetch 27 15 = some (.aload_n 1) := by decide +kernel
theorem e_Dk_tradeAway_15 (a0 a2 a3 a4 : AV) (σ : aM) (l1 : Option (Nat × Int)) (r : List AV)  : ev 27 15 [a0, aQ l1, a2, a3, a4] (r) σ = ev 27 16 [a0, aQ l1, a2, a3, a4] (aQ l1 :: r) σ := ev_go f_Dk_tradeAway_15 rfl
theorem f_Dk_tradeAway_16 : fetch 27 16 = some (.iload 4) := by decide +kernel
theorem e_Dk_tradeAway_16 (a0 a1 a2 a3 : AV) (σ : aM) (l4 : Int) (r : List AV)  : ev 27 16 [a0, a1, a2, a3, aI l4] (r) σ = ev 27 18 [a0, a1, a2, a3, aI l4] (aI l4 :: r) σ := ev_go f_Dk_tradeAway_16 rfl
theorem f_Dk_tradeAway_18 : fetch 27 18 = some (.invokevirtual 163) := by decide +kernel
theorem e_Dk_tradeAway_18 (a0 a1 a2 a3 a4 : AV) (σ : aM) (s0 : Int) (s1 : Int) : ev 27 18 [a0, a1, a2, a3, a4] [aI s1, aR 8 s0] σ = evK 27 21 [a0, a1, a2, a3, a4] [] (ev 42 0 [aR 8 s0, aI s1] [] σ) := ev_call f_Dk_tradeAway_18 rfl rfl
theorem f_Dk_tradeAway_21 : fetch 27 21 = some (.aload_n 2) := by decide +kernel
theorem e_Dk_tradeAway_21 (a0 a1 a3 a4 : AV) (σ : aM) (l2 : Option (Nat × Int)) (r : List AV)  : ev 27 21 [a0, a1, aQ l2, a3, a4] (r) σ = ev 27 22 [a0, a1, aQ l2, a3, a4] (aQ l2 :: r) σ := ev_go f_Dk_tradeAway_21 rfl
theorem f_Dk_tradeAway_22 : fetch 27 22 = some (.iload 4) := by decide +kernel
theorem e_Dk_tradeAway_22 (a0 a1 a2 a3 : AV) (σ : aM) (l4 : Int) (r : List AV)  : ev 27 22 [a0, a1, a2, a3, aI l4] (r) σ = ev 27 24 [a0, a1, a2, a3, aI l4] (aI l4 :: r) σ := ev_go f_Dk_tradeAway_22 rfl
theorem f_Dk_tradeAway_24 : fetch 27 24 = some (.invokevirtual 163) := by decide +kernel
theorem e_Dk_tradeAway_24 (a0 a1 a2 a3 a4 : AV) (σ : aM) (s0 : Int) (s1 : Int) : ev 27 24 [a0, a1, a2, a3, a4] [aI s1, aR 8 s0] σ = evK 27 27 [a0, a1, a2, a3, a4] [] (ev 42 0 [aR 8 s0, aI s1] [] σ) := ev_call f_Dk_tradeAway_24 rfl rfl
theorem f_Dk_tradeAway_27 : fetch 27 27 = some (.return_) := by decide +kernel
theorem e_Dk_tradeAway_27 (a0 a1 a2 a3 a4 : AV) (σ : aM)  : ev 27 27 [a0, a1, a2, a3, a4] [] σ = some (none, σ) := ev_ret f_Dk_tradeAway_27 rfl
theorem f_Dk_meetOwn_0 : fetch 28 0 = some (.aload_n 0) := by decide +kernel
theorem e_Dk_meetOwn_0 (a1 a2 a3 : AV) (σ : aM) (l0 : Option (Nat × Int)) (r : List AV)  : ev 28 0 [aQ l0, a1, a2, a3] (r) σ = ev 28 1 [aQ l0, a1, a2, a3] (aQ l0 :: r) σ := ev_go f_Dk_meetOwn_0 rfl
theorem f_Dk_meetOwn_1 : fetch 28 1 = some (.getfield 12) := by decide +kernel
theorem e_Dk_meetOwn_1 (a0 a1 a2 a3 : AV) (σ : aM) (i : Int) (r : List AV)  : ev 28 1 [a0, a1, a2, a3] (aR 5 i :: r) σ = ev 28 4 [a0, a1, a2, a3] (aR 6 0 :: r) σ := ev_go f_Dk_meetOwn_1 rfl
theorem f_Dk_meetOwn_4 : fetch 28 4 = some (.getfield 117) := by decide +kernel
theorem e_Dk_meetOwn_4 (a0 a1 a2 a3 : AV) (σ : aM) (i : Int) (r : List AV)  : ev 28 4 [a0, a1, a2, a3] (aR 6 i :: r) σ = ev 28 7 [a0, a1, a2, a3] (aI (gI σ 6 i 4) :: r) σ := ev_go f_Dk_meetOwn_4 rfl
theorem f_Dk_meetOwn_7 : fetch 28 7 = some (.iconst 1) := by decide +kernel
theorem e_Dk_meetOwn_7 (a0 a1 a2 a3 : AV) (σ : aM) (r : List AV)  : ev 28 7 [a0, a1, a2, a3] (r) σ = ev 28 8 [a0, a1, a2, a3] (aI 1 :: r) σ := ev_go f_Dk_meetOwn_7 rfl
theorem f_Dk_meetOwn_8 : fetch 28 8 = some (.if_icmp .ne 11) := by decide +kernel
theorem e_Dk_meetOwn_8 (a0 a1 a2 a3 : AV) (σ : aM) (x z : Int) (r : List AV) : ev 28 8 [a0, a1, a2, a3] (aI z :: aI x :: r) σ = if ¬ x = z then ev 28 19 [a0, a1, a2, a3] r σ else ev 28 11 [a0, a1, a2, a3] r σ := ev_br f_Dk_meetOwn_8 rfl bc_ne
theorem f_Dk_meetOwn_11 : fetch 28 11 = some (.aload_n 1) := by decide +kernel
theorem e_Dk_meetOwn_11 (a0 a2 a3 : AV) (σ : aM) (l1 : Option (Nat × Int)) (r : List AV)  : ev 28 11 [a0, aQ l1, a2, a3] (r) σ = ev 28 12 [a0, aQ l1, a2, a3] (aQ l1 :: r) σ := ev_go f_Dk_meetOwn_11 rfl
theorem f_Dk_meetOwn_12 : fetch 28 12 = some (.iconst 3) := by decide +kernel
theorem e_Dk_meetOwn_12 (a0 a1 a2 a3 : AV) (σ : aM) (r : List AV)  : ev 28 12 [a0, a1, a2, a3] (r) σ = ev 28 13 [a0, a1, a2, a3] (aI 3 :: r) σ := ev_go f_Dk_meetOwn_12 rfl
theorem f_Dk_meetOwn_13 : fetch 28 13 = some (.putfield 39) := by decide +kernel
theorem e_Dk_meetOwn_13 (a0 a1 a2 a3 : AV) (σ : aM) (i : Int) (x : Int) (r : List AV)  : ev 28 13 [a0, a1, a2, a3] (aI x :: aR 8 i :: r) σ = ev 28 16 [a0, a1, a2, a3] (r) (uI σ 8 i 5 x) := ev_go f_Dk_meetOwn_13 rfl
theorem f_Dk_meetOwn_16 : fetch 28 16 = some (.goto 44) := by decide +kernel
theorem e_Dk_meetOwn_16 (a0 a1 a2 a3 : AV) (σ : aM) (r : List AV)  : ev 28 16 [a0, a1, a2, a3] (r) σ = ev 28 60 [a0, a1, a2, a3] (r) σ := ev_go f_Dk_meetOwn_16 rfl
theorem f_Dk_meetOwn_19 : fetch 28 19 = some (.aload_n 0) := by decide +kernel
theorem e_Dk_meetOwn_19 (a1 a2 a3 : AV) (σ : aM) (l0 : Option (Nat × Int)) (r : List AV)  : ev 28 19 [aQ l0, a1, a2, a3] (r) σ = ev 28 20 [aQ l0, a1, a2, a3] (aQ l0 :: r) σ := ev_go f_Dk_meetOwn_19 rfl
theorem f_Dk_meetOwn_20 : fetch 28 20 = some (.getfield 12) := by decide +kernel
theorem e_Dk_meetOwn_20 (a0 a1 a2 a3 : AV) (σ : aM) (i : Int) (r : List AV)  : ev 28 20 [a0, a1, a2, a3] (aR 5 i :: r) σ = ev 28 23 [a0, a1, a2, a3] (aR 6 0 :: r) σ := ev_go f_Dk_meetOwn_20 rfl
theorem f_Dk_meetOwn_23 : fetch 28 23 = some (.getfield 117) := by decide +kernel
theorem e_Dk_meetOwn_23 (a0 a1 a2 a3 : AV) (σ : aM) (i : Int) (r : List AV)  : ev 28 23 [a0, a1, a2, a3] (aR 6 i :: r) σ = ev 28 26 [a0, a1, a2, a3] (aI (gI σ 6 i 4) :: r) σ := ev_go f_Dk_meetOwn_23 rfl
theorem f_Dk_meetOwn_26 : fetch 28 26 = some (.iconst 2) := by decide +kernel
theorem e_Dk_meetOwn_26 (a0 a1 a2 a3 : AV) (σ : aM) (r : List AV)  : ev 28 26 [a0, a1, a2, a3] (r) σ = ev 28 27 [a0, a1, a2, a3] (aI 2 :: r) σ := ev_go f_Dk_meetOwn_26 rfl
theorem f_Dk_meetOwn_27 : fetch 28 27 = some (.if_icmp .ne 11) := by decide +kernel
theorem e_Dk_meetOwn_27 (a0 a1 a2 a3 : AV) (σ : aM) (x z : Int) (r : List AV) : ev 28 27 [a0, a1, a2, a3] (aI z :: aI x :: r) σ = if ¬ x = z then ev 28 38 [a0, a1, a2, a3] r σ else ev 28 30 [a0, a1, a2, a3] r σ := ev_br f_Dk_meetOwn_27 rfl bc_ne
theorem f_Dk_meetOwn_30 : fetch 28 30 = some (.aload_n 2) := by decide +kernel
theorem e_Dk_meetOwn_30 (a0 a1 a3 : AV) (σ : aM) (l2 : Option (Nat × Int)) (r : List AV)  : ev 28 30 [a0, a1, aQ l2, a3] (r) σ = ev 28 31 [a0, a1, aQ l2, a3] (aQ l2 :: r) σ := ev_go f_Dk_meetOwn_30 rfl
theorem f_Dk_meetOwn_31 : fetch 28 31 = some (.iconst 3) := by decide +kernel
theorem e_Dk_meetOwn_31 (a0 a1 a2 a3 : AV) (σ : aM) (r : List AV)  : ev 28 31 [a0, a1, a2, a3] (r) σ = ev 28 32 [a0, a1, a2, a3] (aI 3 :: r) σ := ev_go f_Dk_meetOwn_31 rfl
theorem f_Dk_meetOwn_32 : fetch 28 32 = some (.putfield 39) := by decide +kernel
theorem e_Dk_meetOwn_32 (a0 a1 a2 a3 : AV) (σ : aM) (i : Int) (x : Int) (r : List AV)  : ev 28 32 [a0, a1, a2, a3] (aI x :: aR 8 i :: r) σ = ev 28 35 [a0, a1, a2, a3] (r) (uI σ 8 i 5 x) := ev_go f_Dk_meetOwn_32 rfl
theorem f_Dk_meetOwn_35 : fetch 28 35 = some (.goto 25) := by decide +kernel
theorem e_Dk_meetOwn_35 (a0 a1 a2 a3 : AV) (σ : aM) (r : List AV)  : ev 28 35 [a0, a1, a2, a3] (r) σ = ev 28 60 [a0, a1, a2, a3] (r) σ := ev_go f_Dk_meetOwn_35 rfl
theorem f_Dk_meetOwn_38 : fetch 28 38 = some (.aload_n 1) := by decide +kernel
theorem e_Dk_meetOwn_38 (a0 a2 a3 : AV) (σ : aM) (l1 : Option (Nat × Int)) (r : List AV)  : ev 28 38 [a0, aQ l1, a2, a3] (r) σ = ev 28 39 [a0, aQ l1, a2, a3] (aQ l1 :: r) σ := ev_go f_Dk_meetOwn_38 rfl
theorem f_Dk_meetOwn_39 : fetch 28 39 = some (.getfield 72) := by decide +kernel
theorem e_Dk_meetOwn_39 (a0 a1 a2 a3 : AV) (σ : aM) (i : Int) (r : List AV)  : ev 28 39 [a0, a1, a2, a3] (aR 8 i :: r) σ = ev 28 42 [a0, a1, a2, a3] (aI (gI σ 8 i 4) :: r) σ := ev_go f_Dk_meetOwn_39 rfl
theorem f_Dk_meetOwn_42 : fetch 28 42 = some (.aload_n 2) := by decide +kernel
theorem e_Dk_meetOwn_42 (a0 a1 a3 : AV) (σ : aM) (l2 : Option (Nat × Int)) (r : List AV)  : ev 28 42 [a0, a1, aQ l2, a3] (r) σ = ev 28 43 [a0, a1, aQ l2, a3] (aQ l2 :: r) σ := ev_go f_Dk_meetOwn_42 rfl
theorem f_Dk_meetOwn_43 : fetch 28 43 = some (.getfield 72) := by decide +kernel
theorem e_Dk_meetOwn_43 (a0 a1 a2 a3 : AV) (σ : aM) (i : Int) (r : List AV)  : ev 28 43 [a0, a1, a2, a3] (aR 8 i :: r) σ = ev 28 46 [a0, a1, a2, a3] (aI (gI σ 8 i 4) :: r) σ := ev_go f_Dk_meetOwn_43 rfl
theorem f_Dk_meetOwn_46 : fetch 28 46 = some (.invokestatic 85) := by decide +kernel
theorem e_Dk_meetOwn_46 (a0 a1 a2 a3 : AV) (σ : aM) (s0 : Int) (s1 : Int) : ev 28 46 [a0, a1, a2, a3] [aI s1, aI s0] σ = ev 28 49 [a0, a1, a2, a3] (aI (if s1 < s0 then s1 else s0) :: []) σ := ev_go f_Dk_meetOwn_46 rfl
theorem f_Dk_meetOwn_49 : fetch 28 49 = some (.istore_n 3) := by decide +kernel
theorem e_Dk_meetOwn_49 (a0 a1 a3 : AV) (σ : aM) (x : Int) (l2 : Option (Nat × Int)) (r : List AV)  : ev 28 49 [a0, a1, aQ l2, a3] (aI x :: r) σ = ev 28 50 [a0, a1, aQ l2, aI x] (r) σ := ev_go f_Dk_meetOwn_49 rfl
theorem f_Dk_meetOwn_50 : fetch 28 50 = some (.aload_n 1) := by decide +kernel
theorem e_Dk_meetOwn_50 (a0 a2 a3 : AV) (σ : aM) (l1 : Option (Nat × Int)) (r : List AV)  : ev 28 50 [a0, aQ l1, a2, a3] (r) σ = ev 28 51 [a0, aQ l1, a2, a3] (aQ l1 :: r) σ := ev_go f_Dk_meetOwn_50 rfl
theorem f_Dk_meetOwn_51 : fetch 28 51 = some (.iload_n 3) := by decide +kernel
theorem e_Dk_meetOwn_51 (a0 a1 a2 : AV) (σ : aM) (l3 : Int) (r : List AV)  : ev 28 51 [a0, a1, a2, aI l3] (r) σ = ev 28 52 [a0, a1, a2, aI l3] (aI l3 :: r) σ := ev_go f_Dk_meetOwn_51 rfl
theorem f_Dk_meetOwn_52 : fetch 28 52 = some (.invokestatic 166) := by decide +kernel
theorem e_Dk_meetOwn_52 (a0 a1 a2 a3 : AV) (σ : aM) (s0 : Option (Nat × Int)) (s1 : Int) : ev 28 52 [a0, a1, a2, a3] [aI s1, aQ s0] σ = evK 28 55 [a0, a1, a2, a3] [] (ev 29 0 [aQ s0, aI s1] [] σ) := ev_call f_Dk_meetOwn_52 rfl rfl
theorem f_Dk_meetOwn_55 : fetch 28 55 = some (.aload_n 2) := by decide +kernel
theorem e_Dk_meetOwn_55 (a0 a1 a3 : AV) (σ : aM) (l2 : Option (Nat × Int)) (r : List AV)  : ev 28 55 [a0, a1, aQ l2, a3] (r) σ = ev 28 56 [a0, a1, aQ l2, a3] (aQ l2 :: r) σ := ev_go f_Dk_meetOwn_55 rfl
theorem f_Dk_meetOwn_56 : fetch 28 56 = some (.iload_n 3) := by decide +kernel
theorem e_Dk_meetOwn_56 (a0 a1 a2 : AV) (σ : aM) (l3 : Int) (r : List AV)  : ev 28 56 [a0, a1, a2, aI l3] (r) σ = ev 28 57 [a0, a1, a2, aI l3] (aI l3 :: r) σ := ev_go f_Dk_meetOwn_56 rfl
theorem f_Dk_meetOwn_57 : fetch 28 57 = some (.invokestatic 166) := by decide +kernel
theorem e_Dk_meetOwn_57 (a0 a1 a2 a3 : AV) (σ : aM) (s0 : Option (Nat × Int)) (s1 : Int) : ev 28 57 [a0, a1, a2, a3] [aI s1, aQ s0] σ = evK 28 60 [a0, a1, a2, a3] [] (ev 29 0 [aQ s0, aI s1] [] σ) := ev_call f_Dk_meetOwn_57 rfl rfl
theorem f_Dk_meetOwn_60 : fetch 28 60 = some (.return_) := by decide +kernel
theorem e_Dk_meetOwn_60 (a0 a1 a2 a3 : AV) (σ : aM)  : ev 28 60 [a0, a1, a2, a3] [] σ = some (none, σ) := ev_ret f_Dk_meetOwn_60 rfl
theorem f_Dk_lessenBy_0 : fetch 29 0 = some (.aload_n 0) := by decide +kernel
theorem e_Dk_lessenBy_0 (a1 : AV) (σ : aM) (l0 : Option (Nat × Int)) (r : List AV)  : ev 29 0 [aQ l0, a1] (r) σ = ev 29 1 [aQ l0, a1] (aQ l0 :: r) σ := ev_go f_Dk_lessenBy_0 rfl
theorem f_Dk_lessenBy_1 : fetch 29 1 = some (.aload_n 0) := by decide +kernel
theorem e_Dk_lessenBy_1 (a1 : AV) (σ : aM) (l0 : Option (Nat × Int)) (r : List AV)  : ev 29 1 [aQ l0, a1] (r) σ = ev 29 2 [aQ l0, a1] (aQ l0 :: r) σ := ev_go f_Dk_lessenBy_1 rfl
theorem f_Dk_lessenBy_2 : fetch 29 2 = some (.getfield 72) := by decide +kernel
theorem e_Dk_lessenBy_2 (a0 a1 : AV) (σ : aM) (i : Int) (r : List AV)  : ev 29 2 [a0, a1] (aR 8 i :: r) σ = ev 29 5 [a0, a1] (aI (gI σ 8 i 4) :: r) σ := ev_go f_Dk_lessenBy_2 rfl
theorem f_Dk_lessenBy_5 : fetch 29 5 = some (.iload_n 1) := by decide +kernel
theorem e_Dk_lessenBy_5 (a0 : AV) (σ : aM) (l1 : Int) (r : List AV)  : ev 29 5 [a0, aI l1] (r) σ = ev 29 6 [a0, aI l1] (aI l1 :: r) σ := ev_go f_Dk_lessenBy_5 rfl
theorem f_Dk_lessenBy_6 : fetch 29 6 = some (.isub) := by decide +kernel
theorem e_Dk_lessenBy_6 (a0 a1 : AV) (σ : aM) (x z : Int) (r : List AV)  : ev 29 6 [a0, a1] (aI z :: aI x :: r) σ = ev 29 7 [a0, a1] (aI (wr (x - z)) :: r) σ := ev_go f_Dk_lessenBy_6 rfl
theorem f_Dk_lessenBy_7 : fetch 29 7 = some (.invokevirtual 78) := by decide +kernel
theorem e_Dk_lessenBy_7 (a0 a1 : AV) (σ : aM) (s0 : Int) (s1 : Int) : ev 29 7 [a0, a1] [aI s1, aR 8 s0] σ = evK 29 10 [a0, a1] [] (ev 43 0 [aR 8 s0, aI s1] [] σ) := ev_call f_Dk_lessenBy_7 rfl rfl
theorem f_Dk_lessenBy_10 : fetch 29 10 = some (.aload_n 0) := by decide +kernel
theorem e_Dk_lessenBy_10 (a1 : AV) (σ : aM) (l0 : Option (Nat × Int)) (r : List AV)  : ev 29 10 [aQ l0, a1] (r) σ = ev 29 11 [aQ l0, a1] (aQ l0 :: r) σ := ev_go f_Dk_lessenBy_10 rfl
theorem f_Dk_lessenBy_11 : fetch 29 11 = some (.getfield 72) := by decide +kernel
theorem e_Dk_lessenBy_11 (a0 a1 : AV) (σ : aM) (i : Int) (r : List AV)  : ev 29 11 [a0, a1] (aR 8 i :: r) σ = ev 29 14 [a0, a1] (aI (gI σ 8 i 4) :: r) σ := ev_go f_Dk_lessenBy_11 rfl
theorem f_Dk_lessenBy_14 : fetch 29 14 = some (.ifCond .ne 8) := by decide +kernel
theorem e_Dk_lessenBy_14 (a0 a1 : AV) (σ : aM) (x : Int) (r : List AV) : ev 29 14 [a0, a1] (aI x :: r) σ = if ¬ x = 0 then ev 29 22 [a0, a1] r σ else ev 29 17 [a0, a1] r σ := ev_br f_Dk_lessenBy_14 rfl bc_ne
theorem f_Dk_lessenBy_17 : fetch 29 17 = some (.aload_n 0) := by decide +kernel
theorem e_Dk_lessenBy_17 (a1 : AV) (σ : aM) (l0 : Option (Nat × Int)) (r : List AV)  : ev 29 17 [aQ l0, a1] (r) σ = ev 29 18 [aQ l0, a1] (aQ l0 :: r) σ := ev_go f_Dk_lessenBy_17 rfl
theorem f_Dk_lessenBy_18 : fetch 29 18 = some (.iconst 3) := by decide +kernel
theorem e_Dk_lessenBy_18 (a0 a1 : AV) (σ : aM) (r : List AV)  : ev 29 18 [a0, a1] (r) σ = ev 29 19 [a0, a1] (aI 3 :: r) σ := ev_go f_Dk_lessenBy_18 rfl
theorem f_Dk_lessenBy_19 : fetch 29 19 = some (.putfield 39) := by decide +kernel
theorem e_Dk_lessenBy_19 (a0 a1 : AV) (σ : aM) (i : Int) (x : Int) (r : List AV)  : ev 29 19 [a0, a1] (aI x :: aR 8 i :: r) σ = ev 29 22 [a0, a1] (r) (uI σ 8 i 5 x) := ev_go f_Dk_lessenBy_19 rfl
theorem f_Dk_lessenBy_22 : fetch 29 22 = some (.return_) := by decide +kernel
theorem e_Dk_lessenBy_22 (a0 a1 : AV) (σ : aM)  : ev 29 22 [a0, a1] [] σ = some (none, σ) := ev_ret f_Dk_lessenBy_22 rfl
theorem f_Dk_wakeStops_0 : fetch 30 0 = some (.aload_n 0) := by decide +kernel
theorem e_Dk_wakeStops_0 (a1 a2 : AV) (σ : aM) (l0 : Option (Nat × Int)) (r : List AV)  : ev 30 0 [aQ l0, a1, a2] (r) σ = ev 30 1 [aQ l0, a1, a2] (aQ l0 :: r) σ := ev_go f_Dk_wakeStops_0 rfl
theorem f_Dk_wakeStops_1 : fetch 30 1 = some (.getfield 12) := by decide +kernel
theorem e_Dk_wakeStops_1 (a0 a1 a2 : AV) (σ : aM) (i : Int) (r : List AV)  : ev 30 1 [a0, a1, a2] (aR 5 i :: r) σ = ev 30 4 [a0, a1, a2] (aR 6 0 :: r) σ := ev_go f_Dk_wakeStops_1 rfl
theorem f_Dk_wakeStops_4 : fetch 30 4 = some (.getfield 98) := by decide +kernel
theorem e_Dk_wakeStops_4 (a0 a1 a2 : AV) (σ : aM) (i : Int) (r : List AV)  : ev 30 4 [a0, a1, a2] (aR 6 i :: r) σ = ev 30 7 [a0, a1, a2] (aI (gI σ 6 i 3) :: r) σ := ev_go f_Dk_wakeStops_4 rfl
theorem f_Dk_wakeStops_7 : fetch 30 7 = some (.iconst 1) := by decide +kernel
theorem e_Dk_wakeStops_7 (a0 a1 a2 : AV) (σ : aM) (r : List AV)  : ev 30 7 [a0, a1, a2] (r) σ = ev 30 8 [a0, a1, a2] (aI 1 :: r) σ := ev_go f_Dk_wakeStops_7 rfl
theorem f_Dk_wakeStops_8 : fetch 30 8 = some (.if_icmp .eq 4) := by decide +kernel
theorem e_Dk_wakeStops_8 (a0 a1 a2 : AV) (σ : aM) (x z : Int) (r : List AV) : ev 30 8 [a0, a1, a2] (aI z :: aI x :: r) σ = if x = z then ev 30 12 [a0, a1, a2] r σ else ev 30 11 [a0, a1, a2] r σ := ev_br f_Dk_wakeStops_8 rfl bc_eq
theorem f_Dk_wakeStops_11 : fetch 30 11 = some (.return_) := by decide +kernel
theorem e_Dk_wakeStops_11 (a0 a1 a2 : AV) (σ : aM)  : ev 30 11 [a0, a1, a2] [] σ = some (none, σ) := ev_ret f_Dk_wakeStops_11 rfl
theorem f_Dk_wakeStops_12 : fetch 30 12 = some (.iconst 0) := by decide +kernel
theorem e_Dk_wakeStops_12 (a0 a1 a2 : AV) (σ : aM) (r : List AV)  : ev 30 12 [a0, a1, a2] (r) σ = ev 30 13 [a0, a1, a2] (aI 0 :: r) σ := ev_go f_Dk_wakeStops_12 rfl
theorem f_Dk_wakeStops_13 : fetch 30 13 = some (.istore_n 1) := by decide +kernel
theorem e_Dk_wakeStops_13 (a1 a2 : AV) (σ : aM) (x : Int) (l0 : Option (Nat × Int)) (r : List AV)  : ev 30 13 [aQ l0, a1, a2] (aI x :: r) σ = ev 30 14 [aQ l0, aI x, a2] (r) σ := ev_go f_Dk_wakeStops_13 rfl
theorem f_Dk_wakeStops_14 : fetch 30 14 = some (.iload_n 1) := by decide +kernel
theorem e_Dk_wakeStops_14 (a0 a2 : AV) (σ : aM) (l1 : Int) (r : List AV)  : ev 30 14 [a0, aI l1, a2] (r) σ = ev 30 15 [a0, aI l1, a2] (aI l1 :: r) σ := ev_go f_Dk_wakeStops_14 rfl
theorem f_Dk_wakeStops_15 : fetch 30 15 = some (.bipush 60) := by decide +kernel
theorem e_Dk_wakeStops_15 (a0 a1 a2 : AV) (σ : aM) (r : List AV)  : ev 30 15 [a0, a1, a2] (r) σ = ev 30 17 [a0, a1, a2] (aI 60 :: r) σ := ev_go f_Dk_wakeStops_15 rfl
theorem f_Dk_wakeStops_17 : fetch 30 17 = some (.if_icmp .ge 40) := by decide +kernel
theorem e_Dk_wakeStops_17 (a0 a1 a2 : AV) (σ : aM) (x z : Int) (r : List AV) : ev 30 17 [a0, a1, a2] (aI z :: aI x :: r) σ = if z ≤ x then ev 30 57 [a0, a1, a2] r σ else ev 30 20 [a0, a1, a2] r σ := ev_br f_Dk_wakeStops_17 rfl bc_ge
theorem f_Dk_wakeStops_20 : fetch 30 20 = some (.aload_n 0) := by decide +kernel
theorem e_Dk_wakeStops_20 (a1 a2 : AV) (σ : aM) (l0 : Option (Nat × Int)) (r : List AV)  : ev 30 20 [aQ l0, a1, a2] (r) σ = ev 30 21 [aQ l0, a1, a2] (aQ l0 :: r) σ := ev_go f_Dk_wakeStops_20 rfl
theorem f_Dk_wakeStops_21 : fetch 30 21 = some (.invokevirtual 169) := by decide +kernel
theorem e_Dk_wakeStops_21 (a0 a1 a2 : AV) (σ : aM) (s0 : Int) : ev 30 21 [a0, a1, a2] [aR 5 s0] σ = evK 30 24 [a0, a1, a2] [] (ev 31 0 [aR 5 s0, aU, aU] [] σ) := ev_call f_Dk_wakeStops_21 rfl rfl
theorem f_Dk_wakeStops_24 : fetch 30 24 = some (.astore_n 2) := by decide +kernel
theorem e_Dk_wakeStops_24 (a0 a2 : AV) (σ : aM) (q : Option (Nat × Int)) (l1 : Int) (r : List AV)  : ev 30 24 [a0, aI l1, a2] (aQ q :: r) σ = ev 30 25 [a0, aI l1, aQ q] (r) σ := ev_go f_Dk_wakeStops_24 rfl
theorem f_Dk_wakeStops_25 : fetch 30 25 = some (.aload_n 2) := by decide +kernel
theorem e_Dk_wakeStops_25 (a0 a1 : AV) (σ : aM) (l2 : Option (Nat × Int)) (r : List AV)  : ev 30 25 [a0, a1, aQ l2] (r) σ = ev 30 26 [a0, a1, aQ l2] (aQ l2 :: r) σ := ev_go f_Dk_wakeStops_25 rfl
theorem f_Dk_wakeStops_26 : fetch 30 26 = some (.ifnonnull 4) := by decide +kernel
theorem e_Dk_wakeStops_26 (a0 a1 a2 : AV) (σ : aM) (q : Option (Nat × Int)) (r : List AV) : ev 30 26 [a0, a1, a2] (aQ q :: r) σ = if ¬ q = none then ev 30 30 [a0, a1, a2] r σ else ev 30 29 [a0, a1, a2] r σ := ev_br f_Dk_wakeStops_26 rfl bc_som
theorem f_Dk_wakeStops_29 : fetch 30 29 = some (.return_) := by decide +kernel
theorem e_Dk_wakeStops_29 (a0 a1 a2 : AV) (σ : aM)  : ev 30 29 [a0, a1, a2] [] σ = some (none, σ) := ev_ret f_Dk_wakeStops_29 rfl
theorem f_Dk_wakeStops_30 : fetch 30 30 = some (.aload_n 2) := by decide +kernel
theorem e_Dk_wakeStops_30 (a0 a1 : AV) (σ : aM) (l2 : Option (Nat × Int)) (r : List AV)  : ev 30 30 [a0, a1, aQ l2] (r) σ = ev 30 31 [a0, a1, aQ l2] (aQ l2 :: r) σ := ev_go f_Dk_wakeStops_30 rfl
theorem f_Dk_wakeStops_31 : fetch 30 31 = some (.iconst 4) := by decide +kernel
theorem e_Dk_wakeStops_31 (a0 a1 a2 : AV) (σ : aM) (r : List AV)  : ev 30 31 [a0, a1, a2] (r) σ = ev 30 32 [a0, a1, a2] (aI 4 :: r) σ := ev_go f_Dk_wakeStops_31 rfl
theorem f_Dk_wakeStops_32 : fetch 30 32 = some (.putfield 39) := by decide +kernel
theorem e_Dk_wakeStops_32 (a0 a1 a2 : AV) (σ : aM) (i : Int) (x : Int) (r : List AV)  : ev 30 32 [a0, a1, a2] (aI x :: aR 8 i :: r) σ = ev 30 35 [a0, a1, a2] (r) (uI σ 8 i 5 x) := ev_go f_Dk_wakeStops_32 rfl
theorem f_Dk_wakeStops_35 : fetch 30 35 = some (.aload_n 0) := by decide +kernel
theorem e_Dk_wakeStops_35 (a1 a2 : AV) (σ : aM) (l0 : Option (Nat × Int)) (r : List AV)  : ev 30 35 [aQ l0, a1, a2] (r) σ = ev 30 36 [aQ l0, a1, a2] (aQ l0 :: r) σ := ev_go f_Dk_wakeStops_35 rfl
theorem f_Dk_wakeStops_36 : fetch 30 36 = some (.aload_n 2) := by decide +kernel
theorem e_Dk_wakeStops_36 (a0 a1 : AV) (σ : aM) (l2 : Option (Nat × Int)) (r : List AV)  : ev 30 36 [a0, a1, aQ l2] (r) σ = ev 30 37 [a0, a1, aQ l2] (aQ l2 :: r) σ := ev_go f_Dk_wakeStops_36 rfl
theorem f_Dk_wakeStops_37 : fetch 30 37 = some (.aload_n 2) := by decide +kernel
theorem e_Dk_wakeStops_37 (a0 a1 : AV) (σ : aM) (l2 : Option (Nat × Int)) (r : List AV)  : ev 30 37 [a0, a1, aQ l2] (r) σ = ev 30 38 [a0, a1, aQ l2] (aQ l2 :: r) σ := ev_go f_Dk_wakeStops_37 rfl
theorem f_Dk_wakeStops_38 : fetch 30 38 = some (.getfield 108) := by decide +kernel
theorem e_Dk_wakeStops_38 (a0 a1 a2 : AV) (σ : aM) (i : Int) (r : List AV)  : ev 30 38 [a0, a1, a2] (aR 8 i :: r) σ = ev 30 41 [a0, a1, a2] (aI (gI σ 8 i 3) :: r) σ := ev_go f_Dk_wakeStops_38 rfl
theorem f_Dk_wakeStops_41 : fetch 30 41 = some (.invokestatic 59) := by decide +kernel
theorem e_Dk_wakeStops_41 (a0 a1 a2 : AV) (σ : aM) (s0 : Option (Nat × Int)) (s1 : Option (Nat × Int)) (s2 : Int) : ev 30 41 [a0, a1, a2] [aI s2, aQ s1, aQ s0] σ = evK 30 44 [a0, a1, a2] [aQ s1, aQ s0] (ev 20 0 [aI s2] [] σ) := ev_call f_Dk_wakeStops_41 rfl rfl
theorem f_Dk_wakeStops_44 : fetch 30 44 = some (.invokevirtual 63) := by decide +kernel
theorem e_Dk_wakeStops_44 (a0 a1 a2 : AV) (σ : aM) (s0 : Int) (s1 : Option (Nat × Int)) (s2 : Int) : ev 30 44 [a0, a1, a2] [aI s2, aQ s1, aR 5 s0] σ = evK 30 47 [a0, a1, a2] [] (ev 24 0 [aR 5 s0, aQ s1, aI s2, aU, aU, aU] [] σ) := ev_call f_Dk_wakeStops_44 rfl rfl
theorem f_Dk_wakeStops_47 : fetch 30 47 = some (.aload_n 2) := by decide +kernel
theorem e_Dk_wakeStops_47 (a0 a1 : AV) (σ : aM) (l2 : Option (Nat × Int)) (r : List AV)  : ev 30 47 [a0, a1, aQ l2] (r) σ = ev 30 48 [a0, a1, aQ l2] (aQ l2 :: r) σ := ev_go f_Dk_wakeStops_47 rfl
theorem f_Dk_wakeStops_48 : fetch 30 48 = some (.invokestatic 105) := by decide +kernel
theorem e_Dk_wakeStops_48 (a0 a1 a2 : AV) (σ : aM) (s0 : Option (Nat × Int)) : ev 30 48 [a0, a1, a2] [aQ s0] σ = evK 30 51 [a0, a1, a2] [] (ev 21 0 [aQ s0] [] σ) := ev_call f_Dk_wakeStops_48 rfl rfl
theorem f_Dk_wakeStops_51 : fetch 30 51 = some (.iinc 1 1) := by decide +kernel
theorem e_Dk_wakeStops_51 (a2 : AV) (σ : aM) (l1 : Int) (l0 : Option (Nat × Int)) (r : List AV)  : ev 30 51 [aQ l0, aI l1, a2] (r) σ = ev 30 54 [aQ l0, aI (wr (l1 + 1)), a2] (r) σ := ev_go f_Dk_wakeStops_51 rfl
theorem f_Dk_wakeStops_54 : fetch 30 54 = some (.goto (-40)) := by decide +kernel
theorem e_Dk_wakeStops_54 (a0 a1 a2 : AV) (σ : aM) (r : List AV)  : ev 30 54 [a0, a1, a2] (r) σ = ev 30 14 [a0, a1, a2] (r) σ := ev_go f_Dk_wakeStops_54 rfl
theorem f_Dk_wakeStops_57 : fetch 30 57 = some (.return_) := by decide +kernel
theorem e_Dk_wakeStops_57 (a0 a1 a2 : AV) (σ : aM)  : ev 30 57 [a0, a1, a2] [] σ = some (none, σ) := ev_ret f_Dk_wakeStops_57 rfl
theorem f_Dk_firstReachedStop_0 : fetch 31 0 = some (.iconst 0) := by decide +kernel
theorem e_Dk_firstReachedStop_0 (a0 a1 a2 : AV) (σ : aM) (r : List AV)  : ev 31 0 [a0, a1, a2] (r) σ = ev 31 1 [a0, a1, a2] (aI 0 :: r) σ := ev_go f_Dk_firstReachedStop_0 rfl
theorem f_Dk_firstReachedStop_1 : fetch 31 1 = some (.istore_n 1) := by decide +kernel
theorem e_Dk_firstReachedStop_1 (a1 a2 : AV) (σ : aM) (x : Int) (l0 : Option (Nat × Int)) (r : List AV)  : ev 31 1 [aQ l0, a1, a2] (aI x :: r) σ = ev 31 2 [aQ l0, aI x, a2] (r) σ := ev_go f_Dk_firstReachedStop_1 rfl
theorem f_Dk_firstReachedStop_2 : fetch 31 2 = some (.iload_n 1) := by decide +kernel
theorem e_Dk_firstReachedStop_2 (a0 a2 : AV) (σ : aM) (l1 : Int) (r : List AV)  : ev 31 2 [a0, aI l1, a2] (r) σ = ev 31 3 [a0, aI l1, a2] (aI l1 :: r) σ := ev_go f_Dk_firstReachedStop_2 rfl
theorem f_Dk_firstReachedStop_3 : fetch 31 3 = some (.aload_n 0) := by decide +kernel
theorem e_Dk_firstReachedStop_3 (a1 a2 : AV) (σ : aM) (l0 : Option (Nat × Int)) (r : List AV)  : ev 31 3 [aQ l0, a1, a2] (r) σ = ev 31 4 [aQ l0, a1, a2] (aQ l0 :: r) σ := ev_go f_Dk_firstReachedStop_3 rfl
theorem f_Dk_firstReachedStop_4 : fetch 31 4 = some (.getfield 12) := by decide +kernel
theorem e_Dk_firstReachedStop_4 (a0 a1 a2 : AV) (σ : aM) (i : Int) (r : List AV)  : ev 31 4 [a0, a1, a2] (aR 5 i :: r) σ = ev 31 7 [a0, a1, a2] (aR 6 0 :: r) σ := ev_go f_Dk_firstReachedStop_4 rfl
theorem f_Dk_firstReachedStop_7 : fetch 31 7 = some (.getfield 27) := by decide +kernel
theorem e_Dk_firstReachedStop_7 (a0 a1 a2 : AV) (σ : aM) (i : Int) (r : List AV)  : ev 31 7 [a0, a1, a2] (aR 6 i :: r) σ = ev 31 10 [a0, a1, a2] (aI (gI σ 6 i 2) :: r) σ := ev_go f_Dk_firstReachedStop_7 rfl
theorem f_Dk_firstReachedStop_10 : fetch 31 10 = some (.if_icmp .ge 44) := by decide +kernel
theorem e_Dk_firstReachedStop_10 (a0 a1 a2 : AV) (σ : aM) (x z : Int) (r : List AV) : ev 31 10 [a0, a1, a2] (aI z :: aI x :: r) σ = if z ≤ x then ev 31 54 [a0, a1, a2] r σ else ev 31 13 [a0, a1, a2] r σ := ev_br f_Dk_firstReachedStop_10 rfl bc_ge
theorem f_Dk_firstReachedStop_13 : fetch 31 13 = some (.aload_n 0) := by decide +kernel
theorem e_Dk_firstReachedStop_13 (a1 a2 : AV) (σ : aM) (l0 : Option (Nat × Int)) (r : List AV)  : ev 31 13 [aQ l0, a1, a2] (r) σ = ev 31 14 [aQ l0, a1, a2] (aQ l0 :: r) σ := ev_go f_Dk_firstReachedStop_13 rfl
theorem f_Dk_firstReachedStop_14 : fetch 31 14 = some (.getfield 12) := by decide +kernel
theorem e_Dk_firstReachedStop_14 (a0 a1 a2 : AV) (σ : aM) (i : Int) (r : List AV)  : ev 31 14 [a0, a1, a2] (aR 5 i :: r) σ = ev 31 17 [a0, a1, a2] (aR 6 0 :: r) σ := ev_go f_Dk_firstReachedStop_14 rfl
theorem f_Dk_firstReachedStop_17 : fetch 31 17 = some (.getfield 31) := by decide +kernel
theorem e_Dk_firstReachedStop_17 (a0 a1 a2 : AV) (σ : aM) (i : Int) (r : List AV)  : ev 31 17 [a0, a1, a2] (aR 6 i :: r) σ = ev 31 20 [a0, a1, a2] (aR 7 i :: r) σ := ev_go f_Dk_firstReachedStop_17 rfl
theorem f_Dk_firstReachedStop_20 : fetch 31 20 = some (.iload_n 1) := by decide +kernel
theorem e_Dk_firstReachedStop_20 (a0 a2 : AV) (σ : aM) (l1 : Int) (r : List AV)  : ev 31 20 [a0, aI l1, a2] (r) σ = ev 31 21 [a0, aI l1, a2] (aI l1 :: r) σ := ev_go f_Dk_firstReachedStop_20 rfl
theorem f_Dk_firstReachedStop_21 : fetch 31 21 = some (.aaload) := by decide +kernel
theorem e_Dk_firstReachedStop_21 (a0 a1 a2 : AV) (σ : aM) (x : Int) (i : Int) (r : List AV) (h : 0 ≤ x ∧ x < 60) : ev 31 21 [a0, a1, a2] (aI x :: aR 7 i :: r) σ = ev 31 22 [a0, a1, a2] (aR 8 (60 * i + x) :: r) σ := ev_cd f_Dk_firstReachedStop_21 rfl ⟨by decide, by decide, h.1, by rw [aLen_n (by decide) rfl]; exact h.2⟩
theorem f_Dk_firstReachedStop_22 : fetch 31 22 = some (.astore_n 2) := by decide +kernel
theorem e_Dk_firstReachedStop_22 (a0 a2 : AV) (σ : aM) (q : Option (Nat × Int)) (l1 : Int) (r : List AV)  : ev 31 22 [a0, aI l1, a2] (aQ q :: r) σ = ev 31 23 [a0, aI l1, aQ q] (r) σ := ev_go f_Dk_firstReachedStop_22 rfl
theorem f_Dk_firstReachedStop_23 : fetch 31 23 = some (.aload_n 2) := by decide +kernel
theorem e_Dk_firstReachedStop_23 (a0 a1 : AV) (σ : aM) (l2 : Option (Nat × Int)) (r : List AV)  : ev 31 23 [a0, a1, aQ l2] (r) σ = ev 31 24 [a0, a1, aQ l2] (aQ l2 :: r) σ := ev_go f_Dk_firstReachedStop_23 rfl
theorem f_Dk_firstReachedStop_24 : fetch 31 24 = some (.getfield 69) := by decide +kernel
theorem e_Dk_firstReachedStop_24 (a0 a1 a2 : AV) (σ : aM) (i : Int) (r : List AV)  : ev 31 24 [a0, a1, a2] (aR 8 i :: r) σ = ev 31 27 [a0, a1, a2] (aI (gI σ 8 i 1) :: r) σ := ev_go f_Dk_firstReachedStop_24 rfl
theorem f_Dk_firstReachedStop_27 : fetch 31 27 = some (.iconst 4) := by decide +kernel
theorem e_Dk_firstReachedStop_27 (a0 a1 a2 : AV) (σ : aM) (r : List AV)  : ev 31 27 [a0, a1, a2] (r) σ = ev 31 28 [a0, a1, a2] (aI 4 :: r) σ := ev_go f_Dk_firstReachedStop_27 rfl
theorem f_Dk_firstReachedStop_28 : fetch 31 28 = some (.if_icmp .ne 20) := by decide +kernel
theorem e_Dk_firstReachedStop_28 (a0 a1 a2 : AV) (σ : aM) (x z : Int) (r : List AV) : ev 31 28 [a0, a1, a2] (aI z :: aI x :: r) σ = if ¬ x = z then ev 31 48 [a0, a1, a2] r σ else ev 31 31 [a0, a1, a2] r σ := ev_br f_Dk_firstReachedStop_28 rfl bc_ne
theorem f_Dk_firstReachedStop_31 : fetch 31 31 = some (.aload_n 2) := by decide +kernel
theorem e_Dk_firstReachedStop_31 (a0 a1 : AV) (σ : aM) (l2 : Option (Nat × Int)) (r : List AV)  : ev 31 31 [a0, a1, aQ l2] (r) σ = ev 31 32 [a0, a1, aQ l2] (aQ l2 :: r) σ := ev_go f_Dk_firstReachedStop_31 rfl
theorem f_Dk_firstReachedStop_32 : fetch 31 32 = some (.getfield 39) := by decide +kernel
theorem e_Dk_firstReachedStop_32 (a0 a1 a2 : AV) (σ : aM) (i : Int) (r : List AV)  : ev 31 32 [a0, a1, a2] (aR 8 i :: r) σ = ev 31 35 [a0, a1, a2] (aI (gI σ 8 i 5) :: r) σ := ev_go f_Dk_firstReachedStop_32 rfl
theorem f_Dk_firstReachedStop_35 : fetch 31 35 = some (.ifCond .ne 13) := by decide +kernel
theorem e_Dk_firstReachedStop_35 (a0 a1 a2 : AV) (σ : aM) (x : Int) (r : List AV) : ev 31 35 [a0, a1, a2] (aI x :: r) σ = if ¬ x = 0 then ev 31 48 [a0, a1, a2] r σ else ev 31 38 [a0, a1, a2] r σ := ev_br f_Dk_firstReachedStop_35 rfl bc_ne
theorem f_Dk_firstReachedStop_38 : fetch 31 38 = some (.aload_n 0) := by decide +kernel
theorem e_Dk_firstReachedStop_38 (a1 a2 : AV) (σ : aM) (l0 : Option (Nat × Int)) (r : List AV)  : ev 31 38 [aQ l0, a1, a2] (r) σ = ev 31 39 [aQ l0, a1, a2] (aQ l0 :: r) σ := ev_go f_Dk_firstReachedStop_38 rfl
theorem f_Dk_firstReachedStop_39 : fetch 31 39 = some (.aload_n 2) := by decide +kernel
theorem e_Dk_firstReachedStop_39 (a0 a1 : AV) (σ : aM) (l2 : Option (Nat × Int)) (r : List AV)  : ev 31 39 [a0, a1, aQ l2] (r) σ = ev 31 40 [a0, a1, aQ l2] (aQ l2 :: r) σ := ev_go f_Dk_firstReachedStop_39 rfl
theorem f_Dk_firstReachedStop_40 : fetch 31 40 = some (.invokevirtual 173) := by decide +kernel
theorem e_Dk_firstReachedStop_40 (a0 a1 a2 : AV) (σ : aM) (s0 : Int) (s1 : Option (Nat × Int)) : ev 31 40 [a0, a1, a2] [aQ s1, aR 5 s0] σ = evK 31 43 [a0, a1, a2] [] (ev 32 0 [aR 5 s0, aQ s1, aU] [] σ) := ev_call f_Dk_firstReachedStop_40 rfl rfl
theorem f_Dk_firstReachedStop_43 : fetch 31 43 = some (.ifCond .eq 5) := by decide +kernel
theorem e_Dk_firstReachedStop_43 (a0 a1 a2 : AV) (σ : aM) (x : Int) (r : List AV) : ev 31 43 [a0, a1, a2] (aI x :: r) σ = if x = 0 then ev 31 48 [a0, a1, a2] r σ else ev 31 46 [a0, a1, a2] r σ := ev_br f_Dk_firstReachedStop_43 rfl bc_eq
theorem f_Dk_firstReachedStop_46 : fetch 31 46 = some (.aload_n 2) := by decide +kernel
theorem e_Dk_firstReachedStop_46 (a0 a1 : AV) (σ : aM) (l2 : Option (Nat × Int)) (r : List AV)  : ev 31 46 [a0, a1, aQ l2] (r) σ = ev 31 47 [a0, a1, aQ l2] (aQ l2 :: r) σ := ev_go f_Dk_firstReachedStop_46 rfl
theorem f_Dk_firstReachedStop_47 : fetch 31 47 = some (.areturn) := by decide +kernel
theorem e_Dk_firstReachedStop_47 (a0 a1 a2 : AV) (σ : aM) (x : Option (Nat × Int)) : ev 31 47 [a0, a1, a2] [aQ x] σ = some ((some (aQ x)), σ) := ev_ret f_Dk_firstReachedStop_47 rfl
theorem f_Dk_firstReachedStop_48 : fetch 31 48 = some (.iinc 1 1) := by decide +kernel
theorem e_Dk_firstReachedStop_48 (a2 : AV) (σ : aM) (l1 : Int) (l0 : Option (Nat × Int)) (r : List AV)  : ev 31 48 [aQ l0, aI l1, a2] (r) σ = ev 31 51 [aQ l0, aI (wr (l1 + 1)), a2] (r) σ := ev_go f_Dk_firstReachedStop_48 rfl
theorem f_Dk_firstReachedStop_51 : fetch 31 51 = some (.goto (-49)) := by decide +kernel
theorem e_Dk_firstReachedStop_51 (a0 a1 a2 : AV) (σ : aM) (r : List AV)  : ev 31 51 [a0, a1, a2] (r) σ = ev 31 2 [a0, a1, a2] (r) σ := ev_go f_Dk_firstReachedStop_51 rfl
theorem f_Dk_firstReachedStop_54 : fetch 31 54 = some (.aconst_null) := by decide +kernel
theorem e_Dk_firstReachedStop_54 (a0 a1 a2 : AV) (σ : aM) (r : List AV)  : ev 31 54 [a0, a1, a2] (r) σ = ev 31 55 [a0, a1, a2] (aN :: r) σ := ev_go f_Dk_firstReachedStop_54 rfl
theorem f_Dk_firstReachedStop_55 : fetch 31 55 = some (.areturn) := by decide +kernel
theorem e_Dk_firstReachedStop_55 (a0 a1 a2 : AV) (σ : aM) (x : Option (Nat × Int)) : ev 31 55 [a0, a1, a2] [aQ x] σ = some ((some (aQ x)), σ) := ev_ret f_Dk_firstReachedStop_55 rfl
theorem f_Dk_isReached_0 : fetch 32 0 = some (.aload_n 0) := by decide +kernel
theorem e_Dk_isReached_0 (a1 a2 : AV) (σ : aM) (l0 : Option (Nat × Int)) (r : List AV)  : ev 32 0 [aQ l0, a1, a2] (r) σ = ev 32 1 [aQ l0, a1, a2] (aQ l0 :: r) σ := ev_go f_Dk_isReached_0 rfl
theorem f_Dk_isReached_1 : fetch 32 1 = some (.getfield 12) := by decide +kernel
theorem e_Dk_isReached_1 (a0 a1 a2 : AV) (σ : aM) (i : Int) (r : List AV)  : ev 32 1 [a0, a1, a2] (aR 5 i :: r) σ = ev 32 4 [a0, a1, a2] (aR 6 0 :: r) σ := ev_go f_Dk_isReached_1 rfl
theorem f_Dk_isReached_4 : fetch 32 4 = some (.getfield 154) := by decide +kernel
theorem e_Dk_isReached_4 (a0 a1 a2 : AV) (σ : aM) (i : Int) (r : List AV)  : ev 32 4 [a0, a1, a2] (aR 6 i :: r) σ = ev 32 7 [a0, a1, a2] (aR 9 i :: r) σ := ev_go f_Dk_isReached_4 rfl
theorem f_Dk_isReached_7 : fetch 32 7 = some (.getfield 176) := by decide +kernel
theorem e_Dk_isReached_7 (a0 a1 a2 : AV) (σ : aM) (i : Int) (r : List AV)  : ev 32 7 [a0, a1, a2] (aR 9 i :: r) σ = ev 32 10 [a0, a1, a2] (aI (gI σ 9 i 4) :: r) σ := ev_go f_Dk_isReached_7 rfl
theorem f_Dk_isReached_10 : fetch 32 10 = some (.istore_n 2) := by decide +kernel
theorem e_Dk_isReached_10 (a0 a2 : AV) (σ : aM) (x : Int) (l1 : Option (Nat × Int)) (r : List AV)  : ev 32 10 [a0, aQ l1, a2] (aI x :: r) σ = ev 32 11 [a0, aQ l1, aI x] (r) σ := ev_go f_Dk_isReached_10 rfl
theorem f_Dk_isReached_11 : fetch 32 11 = some (.iload_n 2) := by decide +kernel
theorem e_Dk_isReached_11 (a0 a1 : AV) (σ : aM) (l2 : Int) (r : List AV)  : ev 32 11 [a0, a1, aI l2] (r) σ = ev 32 12 [a0, a1, aI l2] (aI l2 :: r) σ := ev_go f_Dk_isReached_11 rfl
theorem f_Dk_isReached_12 : fetch 32 12 = some (.ifCond .ne 5) := by decide +kernel
theorem e_Dk_isReached_12 (a0 a1 a2 : AV) (σ : aM) (x : Int) (r : List AV) : ev 32 12 [a0, a1, a2] (aI x :: r) σ = if ¬ x = 0 then ev 32 17 [a0, a1, a2] r σ else ev 32 15 [a0, a1, a2] r σ := ev_br f_Dk_isReached_12 rfl bc_ne
theorem f_Dk_isReached_15 : fetch 32 15 = some (.iconst 0) := by decide +kernel
theorem e_Dk_isReached_15 (a0 a1 a2 : AV) (σ : aM) (r : List AV)  : ev 32 15 [a0, a1, a2] (r) σ = ev 32 16 [a0, a1, a2] (aI 0 :: r) σ := ev_go f_Dk_isReached_15 rfl
theorem f_Dk_isReached_16 : fetch 32 16 = some (.ireturn) := by decide +kernel
theorem e_Dk_isReached_16 (a0 a1 a2 : AV) (σ : aM) (x : Int) (h : x = 0 ∨ x = 1) : ev 32 16 [a0, a1, a2] [aI x] σ = some ((some (aI x)), σ) := ev_rB f_Dk_isReached_16 rfl h
theorem f_Dk_isReached_17 : fetch 32 17 = some (.aload_n 1) := by decide +kernel
theorem e_Dk_isReached_17 (a0 a2 : AV) (σ : aM) (l1 : Option (Nat × Int)) (r : List AV)  : ev 32 17 [a0, aQ l1, a2] (r) σ = ev 32 18 [a0, aQ l1, a2] (aQ l1 :: r) σ := ev_go f_Dk_isReached_17 rfl
theorem f_Dk_isReached_18 : fetch 32 18 = some (.getfield 108) := by decide +kernel
theorem e_Dk_isReached_18 (a0 a1 a2 : AV) (σ : aM) (i : Int) (r : List AV)  : ev 32 18 [a0, a1, a2] (aR 8 i :: r) σ = ev 32 21 [a0, a1, a2] (aI (gI σ 8 i 3) :: r) σ := ev_go f_Dk_isReached_18 rfl
theorem f_Dk_isReached_21 : fetch 32 21 = some (.ifCond .ne 19) := by decide +kernel
theorem e_Dk_isReached_21 (a0 a1 a2 : AV) (σ : aM) (x : Int) (r : List AV) : ev 32 21 [a0, a1, a2] (aI x :: r) σ = if ¬ x = 0 then ev 32 40 [a0, a1, a2] r σ else ev 32 24 [a0, a1, a2] r σ := ev_br f_Dk_isReached_21 rfl bc_ne
theorem f_Dk_isReached_24 : fetch 32 24 = some (.iload_n 2) := by decide +kernel
theorem e_Dk_isReached_24 (a0 a1 : AV) (σ : aM) (l2 : Int) (r : List AV)  : ev 32 24 [a0, a1, aI l2] (r) σ = ev 32 25 [a0, a1, aI l2] (aI l2 :: r) σ := ev_go f_Dk_isReached_24 rfl
theorem f_Dk_isReached_25 : fetch 32 25 = some (.aload_n 1) := by decide +kernel
theorem e_Dk_isReached_25 (a0 a2 : AV) (σ : aM) (l1 : Option (Nat × Int)) (r : List AV)  : ev 32 25 [a0, aQ l1, a2] (r) σ = ev 32 26 [a0, aQ l1, a2] (aQ l1 :: r) σ := ev_go f_Dk_isReached_25 rfl
theorem f_Dk_isReached_26 : fetch 32 26 = some (.getfield 75) := by decide +kernel
theorem e_Dk_isReached_26 (a0 a1 a2 : AV) (σ : aM) (i : Int) (r : List AV)  : ev 32 26 [a0, a1, a2] (aR 8 i :: r) σ = ev 32 29 [a0, a1, a2] (aI (gI σ 8 i 7) :: r) σ := ev_go f_Dk_isReached_26 rfl
theorem f_Dk_isReached_29 : fetch 32 29 = some (.if_icmp .lt 7) := by decide +kernel
theorem e_Dk_isReached_29 (a0 a1 a2 : AV) (σ : aM) (x z : Int) (r : List AV) : ev 32 29 [a0, a1, a2] (aI z :: aI x :: r) σ = if x < z then ev 32 36 [a0, a1, a2] r σ else ev 32 32 [a0, a1, a2] r σ := ev_br f_Dk_isReached_29 rfl bc_lt
theorem f_Dk_isReached_32 : fetch 32 32 = some (.iconst 1) := by decide +kernel
theorem e_Dk_isReached_32 (a0 a1 a2 : AV) (σ : aM) (r : List AV)  : ev 32 32 [a0, a1, a2] (r) σ = ev 32 33 [a0, a1, a2] (aI 1 :: r) σ := ev_go f_Dk_isReached_32 rfl
theorem f_Dk_isReached_33 : fetch 32 33 = some (.goto 20) := by decide +kernel
theorem e_Dk_isReached_33 (a0 a1 a2 : AV) (σ : aM) (r : List AV)  : ev 32 33 [a0, a1, a2] (r) σ = ev 32 53 [a0, a1, a2] (r) σ := ev_go f_Dk_isReached_33 rfl
theorem f_Dk_isReached_36 : fetch 32 36 = some (.iconst 0) := by decide +kernel
theorem e_Dk_isReached_36 (a0 a1 a2 : AV) (σ : aM) (r : List AV)  : ev 32 36 [a0, a1, a2] (r) σ = ev 32 37 [a0, a1, a2] (aI 0 :: r) σ := ev_go f_Dk_isReached_36 rfl
theorem f_Dk_isReached_37 : fetch 32 37 = some (.goto 16) := by decide +kernel
theorem e_Dk_isReached_37 (a0 a1 a2 : AV) (σ : aM) (r : List AV)  : ev 32 37 [a0, a1, a2] (r) σ = ev 32 53 [a0, a1, a2] (r) σ := ev_go f_Dk_isReached_37 rfl
theorem f_Dk_isReached_40 : fetch 32 40 = some (.iload_n 2) := by decide +kernel
theorem e_Dk_isReached_40 (a0 a1 : AV) (σ : aM) (l2 : Int) (r : List AV)  : ev 32 40 [a0, a1, aI l2] (r) σ = ev 32 41 [a0, a1, aI l2] (aI l2 :: r) σ := ev_go f_Dk_isReached_40 rfl
theorem f_Dk_isReached_41 : fetch 32 41 = some (.aload_n 1) := by decide +kernel
theorem e_Dk_isReached_41 (a0 a2 : AV) (σ : aM) (l1 : Option (Nat × Int)) (r : List AV)  : ev 32 41 [a0, aQ l1, a2] (r) σ = ev 32 42 [a0, aQ l1, a2] (aQ l1 :: r) σ := ev_go f_Dk_isReached_41 rfl
theorem f_Dk_isReached_42 : fetch 32 42 = some (.getfield 75) := by decide +kernel
theorem e_Dk_isReached_42 (a0 a1 a2 : AV) (σ : aM) (i : Int) (r : List AV)  : ev 32 42 [a0, a1, a2] (aR 8 i :: r) σ = ev 32 45 [a0, a1, a2] (aI (gI σ 8 i 7) :: r) σ := ev_go f_Dk_isReached_42 rfl
theorem f_Dk_isReached_45 : fetch 32 45 = some (.if_icmp .gt 7) := by decide +kernel
theorem e_Dk_isReached_45 (a0 a1 a2 : AV) (σ : aM) (x z : Int) (r : List AV) : ev 32 45 [a0, a1, a2] (aI z :: aI x :: r) σ = if z < x then ev 32 52 [a0, a1, a2] r σ else ev 32 48 [a0, a1, a2] r σ := ev_br f_Dk_isReached_45 rfl bc_gt
theorem f_Dk_isReached_48 : fetch 32 48 = some (.iconst 1) := by decide +kernel
theorem e_Dk_isReached_48 (a0 a1 a2 : AV) (σ : aM) (r : List AV)  : ev 32 48 [a0, a1, a2] (r) σ = ev 32 49 [a0, a1, a2] (aI 1 :: r) σ := ev_go f_Dk_isReached_48 rfl
theorem f_Dk_isReached_49 : fetch 32 49 = some (.goto 4) := by decide +kernel
theorem e_Dk_isReached_49 (a0 a1 a2 : AV) (σ : aM) (r : List AV)  : ev 32 49 [a0, a1, a2] (r) σ = ev 32 53 [a0, a1, a2] (r) σ := ev_go f_Dk_isReached_49 rfl
theorem f_Dk_isReached_52 : fetch 32 52 = some (.iconst 0) := by decide +kernel
theorem e_Dk_isReached_52 (a0 a1 a2 : AV) (σ : aM) (r : List AV)  : ev 32 52 [a0, a1, a2] (r) σ = ev 32 53 [a0, a1, a2] (aI 0 :: r) σ := ev_go f_Dk_isReached_52 rfl
theorem f_Dk_isReached_53 : fetch 32 53 = some (.ireturn) := by decide +kernel
theorem e_Dk_isReached_53 (a0 a1 a2 : AV) (σ : aM) (x : Int) (h : x = 0 ∨ x = 1) : ev 32 53 [a0, a1, a2] [aI x] σ = some ((some (aI x)), σ) := ev_rB f_Dk_isReached_53 rfl h
theorem f_Ord_begin_0 : fetch 34 0 = some (.aload_n 0) := by decide +kernel
theorem e_Ord_begin_0 (a1 a2 a3 a4 a5 a6 : AV) (σ : aM) (l0 : Option (Nat × Int)) (r : List AV)  : ev 34 0 [aQ l0, a1, a2, a3, a4, a5, a6] (r) σ = ev 34 1 [aQ l0, a1, a2, a3, a4, a5, a6] (aQ l0 :: r) σ := ev_go f_Ord_begin_0 rfl
theorem f_Ord_begin_1 : fetch 34 1 = some (.iload_n 1) := by decide +kernel
theorem e_Ord_begin_1 (a0 a2 a3 a4 a5 a6 : AV) (σ : aM) (l1 : Int) (r : List AV)  : ev 34 1 [a0, aI l1, a2, a3, a4, a5, a6] (r) σ = ev 34 2 [a0, aI l1, a2, a3, a4, a5, a6] (aI l1 :: r) σ := ev_go f_Ord_begin_1 rfl
theorem f_Ord_begin_2 : fetch 34 2 = some (.putfield 9) := by decide +kernel
theorem e_Ord_begin_2 (a0 a1 a2 a3 a4 a5 a6 : AV) (σ : aM) (i : Int) (x : Int) (r : List AV)  : ev 34 2 [a0, a1, a2, a3, a4, a5, a6] (aI x :: aR 8 i :: r) σ = ev 34 5 [a0, a1, a2, a3, a4, a5, a6] (r) (uI σ 8 i 1 x) := ev_go f_Ord_begin_2 rfl
theorem f_Ord_begin_5 : fetch 34 5 = some (.aload_n 0) := by decide +kernel
theorem e_Ord_begin_5 (a1 a2 a3 a4 a5 a6 : AV) (σ : aM) (l0 : Option (Nat × Int)) (r : List AV)  : ev 34 5 [aQ l0, a1, a2, a3, a4, a5, a6] (r) σ = ev 34 6 [aQ l0, a1, a2, a3, a4, a5, a6] (aQ l0 :: r) σ := ev_go f_Ord_begin_5 rfl
theorem f_Ord_begin_6 : fetch 34 6 = some (.iload_n 2) := by decide +kernel
theorem e_Ord_begin_6 (a0 a1 a3 a4 a5 a6 : AV) (σ : aM) (l2 : Int) (r : List AV)  : ev 34 6 [a0, a1, aI l2, a3, a4, a5, a6] (r) σ = ev 34 7 [a0, a1, aI l2, a3, a4, a5, a6] (aI l2 :: r) σ := ev_go f_Ord_begin_6 rfl
theorem f_Ord_begin_7 : fetch 34 7 = some (.putfield 15) := by decide +kernel
theorem e_Ord_begin_7 (a0 a1 a2 a3 a4 a5 a6 : AV) (σ : aM) (i : Int) (x : Int) (r : List AV)  : ev 34 7 [a0, a1, a2, a3, a4, a5, a6] (aI x :: aR 8 i :: r) σ = ev 34 10 [a0, a1, a2, a3, a4, a5, a6] (r) (uI σ 8 i 2 x) := ev_go f_Ord_begin_7 rfl
theorem f_Ord_begin_10 : fetch 34 10 = some (.aload_n 0) := by decide +kernel
theorem e_Ord_begin_10 (a1 a2 a3 a4 a5 a6 : AV) (σ : aM) (l0 : Option (Nat × Int)) (r : List AV)  : ev 34 10 [aQ l0, a1, a2, a3, a4, a5, a6] (r) σ = ev 34 11 [aQ l0, a1, a2, a3, a4, a5, a6] (aQ l0 :: r) σ := ev_go f_Ord_begin_10 rfl
theorem f_Ord_begin_11 : fetch 34 11 = some (.iload_n 3) := by decide +kernel
theorem e_Ord_begin_11 (a0 a1 a2 a4 a5 a6 : AV) (σ : aM) (l3 : Int) (r : List AV)  : ev 34 11 [a0, a1, a2, aI l3, a4, a5, a6] (r) σ = ev 34 12 [a0, a1, a2, aI l3, a4, a5, a6] (aI l3 :: r) σ := ev_go f_Ord_begin_11 rfl
theorem f_Ord_begin_12 : fetch 34 12 = some (.putfield 18) := by decide +kernel
theorem e_Ord_begin_12 (a0 a1 a2 a3 a4 a5 a6 : AV) (σ : aM) (i : Int) (x : Int) (r : List AV)  : ev 34 12 [a0, a1, a2, a3, a4, a5, a6] (aI x :: aR 8 i :: r) σ = ev 34 15 [a0, a1, a2, a3, a4, a5, a6] (r) (uI σ 8 i 3 x) := ev_go f_Ord_begin_12 rfl
theorem f_Ord_begin_15 : fetch 34 15 = some (.aload_n 0) := by decide +kernel
theorem e_Ord_begin_15 (a1 a2 a3 a4 a5 a6 : AV) (σ : aM) (l0 : Option (Nat × Int)) (r : List AV)  : ev 34 15 [aQ l0, a1, a2, a3, a4, a5, a6] (r) σ = ev 34 16 [aQ l0, a1, a2, a3, a4, a5, a6] (aQ l0 :: r) σ := ev_go f_Ord_begin_15 rfl
theorem f_Ord_begin_16 : fetch 34 16 = some (.iload 4) := by decide +kernel
theorem e_Ord_begin_16 (a0 a1 a2 a3 a5 a6 : AV) (σ : aM) (l4 : Int) (r : List AV)  : ev 34 16 [a0, a1, a2, a3, aI l4, a5, a6] (r) σ = ev 34 18 [a0, a1, a2, a3, aI l4, a5, a6] (aI l4 :: r) σ := ev_go f_Ord_begin_16 rfl
theorem f_Ord_begin_18 : fetch 34 18 = some (.putfield 21) := by decide +kernel
theorem e_Ord_begin_18 (a0 a1 a2 a3 a4 a5 a6 : AV) (σ : aM) (i : Int) (x : Int) (r : List AV)  : ev 34 18 [a0, a1, a2, a3, a4, a5, a6] (aI x :: aR 8 i :: r) σ = ev 34 21 [a0, a1, a2, a3, a4, a5, a6] (r) (uI σ 8 i 4 x) := ev_go f_Ord_begin_18 rfl
theorem f_Ord_begin_21 : fetch 34 21 = some (.aload_n 0) := by decide +kernel
theorem e_Ord_begin_21 (a1 a2 a3 a4 a5 a6 : AV) (σ : aM) (l0 : Option (Nat × Int)) (r : List AV)  : ev 34 21 [aQ l0, a1, a2, a3, a4, a5, a6] (r) σ = ev 34 22 [aQ l0, a1, a2, a3, a4, a5, a6] (aQ l0 :: r) σ := ev_go f_Ord_begin_21 rfl
theorem f_Ord_begin_22 : fetch 34 22 = some (.iconst 4) := by decide +kernel
theorem e_Ord_begin_22 (a0 a1 a2 a3 a4 a5 a6 : AV) (σ : aM) (r : List AV)  : ev 34 22 [a0, a1, a2, a3, a4, a5, a6] (r) σ = ev 34 23 [a0, a1, a2, a3, a4, a5, a6] (aI 4 :: r) σ := ev_go f_Ord_begin_22 rfl
theorem f_Ord_begin_23 : fetch 34 23 = some (.putfield 24) := by decide +kernel
theorem e_Ord_begin_23 (a0 a1 a2 a3 a4 a5 a6 : AV) (σ : aM) (i : Int) (x : Int) (r : List AV)  : ev 34 23 [a0, a1, a2, a3, a4, a5, a6] (aI x :: aR 8 i :: r) σ = ev 34 26 [a0, a1, a2, a3, a4, a5, a6] (r) (uI σ 8 i 5 x) := ev_go f_Ord_begin_23 rfl
theorem f_Ord_begin_26 : fetch 34 26 = some (.aload_n 0) := by decide +kernel
theorem e_Ord_begin_26 (a1 a2 a3 a4 a5 a6 : AV) (σ : aM) (l0 : Option (Nat × Int)) (r : List AV)  : ev 34 26 [aQ l0, a1, a2, a3, a4, a5, a6] (r) σ = ev 34 27 [aQ l0, a1, a2, a3, a4, a5, a6] (aQ l0 :: r) σ := ev_go f_Ord_begin_26 rfl
theorem f_Ord_begin_27 : fetch 34 27 = some (.iconst 0) := by decide +kernel
theorem e_Ord_begin_27 (a0 a1 a2 a3 a4 a5 a6 : AV) (σ : aM) (r : List AV)  : ev 34 27 [a0, a1, a2, a3, a4, a5, a6] (r) σ = ev 34 28 [a0, a1, a2, a3, a4, a5, a6] (aI 0 :: r) σ := ev_go f_Ord_begin_27 rfl
theorem f_Ord_begin_28 : fetch 34 28 = some (.putfield 27) := by decide +kernel
theorem e_Ord_begin_28 (a0 a1 a2 a3 a4 a5 a6 : AV) (σ : aM) (i : Int) (x : Int) (r : List AV)  : ev 34 28 [a0, a1, a2, a3, a4, a5, a6] (aI x :: aR 8 i :: r) σ = ev 34 31 [a0, a1, a2, a3, a4, a5, a6] (r) (uI σ 8 i 6 x) := ev_go f_Ord_begin_28 rfl
theorem f_Ord_begin_31 : fetch 34 31 = some (.aload_n 0) := by decide +kernel
theorem e_Ord_begin_31 (a1 a2 a3 a4 a5 a6 : AV) (σ : aM) (l0 : Option (Nat × Int)) (r : List AV)  : ev 34 31 [aQ l0, a1, a2, a3, a4, a5, a6] (r) σ = ev 34 32 [aQ l0, a1, a2, a3, a4, a5, a6] (aQ l0 :: r) σ := ev_go f_Ord_begin_31 rfl
theorem f_Ord_begin_32 : fetch 34 32 = some (.iload 5) := by decide +kernel
theorem e_Ord_begin_32 (a0 a1 a2 a3 a4 a6 : AV) (σ : aM) (l5 : Int) (r : List AV)  : ev 34 32 [a0, a1, a2, a3, a4, aI l5, a6] (r) σ = ev 34 34 [a0, a1, a2, a3, a4, aI l5, a6] (aI l5 :: r) σ := ev_go f_Ord_begin_32 rfl
theorem f_Ord_begin_34 : fetch 34 34 = some (.putfield 30) := by decide +kernel
theorem e_Ord_begin_34 (a0 a1 a2 a3 a4 a5 a6 : AV) (σ : aM) (i : Int) (x : Int) (r : List AV)  : ev 34 34 [a0, a1, a2, a3, a4, a5, a6] (aI x :: aR 8 i :: r) σ = ev 34 37 [a0, a1, a2, a3, a4, a5, a6] (r) (uI σ 8 i 7 x) := ev_go f_Ord_begin_34 rfl
theorem f_Ord_begin_37 : fetch 34 37 = some (.aload_n 0) := by decide +kernel
theorem e_Ord_begin_37 (a1 a2 a3 a4 a5 a6 : AV) (σ : aM) (l0 : Option (Nat × Int)) (r : List AV)  : ev 34 37 [aQ l0, a1, a2, a3, a4, a5, a6] (r) σ = ev 34 38 [aQ l0, a1, a2, a3, a4, a5, a6] (aQ l0 :: r) σ := ev_go f_Ord_begin_37 rfl
theorem f_Ord_begin_38 : fetch 34 38 = some (.iload 6) := by decide +kernel
theorem e_Ord_begin_38 (a0 a1 a2 a3 a4 a5 : AV) (σ : aM) (l6 : Int) (r : List AV)  : ev 34 38 [a0, a1, a2, a3, a4, a5, aI l6] (r) σ = ev 34 40 [a0, a1, a2, a3, a4, a5, aI l6] (aI l6 :: r) σ := ev_go f_Ord_begin_38 rfl
theorem f_Ord_begin_40 : fetch 34 40 = some (.putfield 33) := by decide +kernel
theorem e_Ord_begin_40 (a0 a1 a2 a3 a4 a5 a6 : AV) (σ : aM) (i : Int) (x : Int) (r : List AV)  : ev 34 40 [a0, a1, a2, a3, a4, a5, a6] (aI x :: aR 8 i :: r) σ = ev 34 43 [a0, a1, a2, a3, a4, a5, a6] (r) (uI σ 8 i 8 x) := ev_go f_Ord_begin_40 rfl
theorem f_Ord_begin_43 : fetch 34 43 = some (.aload_n 0) := by decide +kernel
theorem e_Ord_begin_43 (a1 a2 a3 a4 a5 a6 : AV) (σ : aM) (l0 : Option (Nat × Int)) (r : List AV)  : ev 34 43 [aQ l0, a1, a2, a3, a4, a5, a6] (r) σ = ev 34 44 [aQ l0, a1, a2, a3, a4, a5, a6] (aQ l0 :: r) σ := ev_go f_Ord_begin_43 rfl
theorem f_Ord_begin_44 : fetch 34 44 = some (.iconst 0) := by decide +kernel
theorem e_Ord_begin_44 (a0 a1 a2 a3 a4 a5 a6 : AV) (σ : aM) (r : List AV)  : ev 34 44 [a0, a1, a2, a3, a4, a5, a6] (r) σ = ev 34 45 [a0, a1, a2, a3, a4, a5, a6] (aI 0 :: r) σ := ev_go f_Ord_begin_44 rfl
theorem f_Ord_begin_45 : fetch 34 45 = some (.putfield 36) := by decide +kernel
theorem e_Ord_begin_45 (a0 a1 a2 a3 a4 a5 a6 : AV) (σ : aM) (i : Int) (x : Int) (r : List AV)  : ev 34 45 [a0, a1, a2, a3, a4, a5, a6] (aI x :: aR 8 i :: r) σ = ev 34 48 [a0, a1, a2, a3, a4, a5, a6] (r) (uI σ 8 i 9 x) := ev_go f_Ord_begin_45 rfl
theorem f_Ord_begin_48 : fetch 34 48 = some (.aload_n 0) := by decide +kernel
theorem e_Ord_begin_48 (a1 a2 a3 a4 a5 a6 : AV) (σ : aM) (l0 : Option (Nat × Int)) (r : List AV)  : ev 34 48 [aQ l0, a1, a2, a3, a4, a5, a6] (r) σ = ev 34 49 [aQ l0, a1, a2, a3, a4, a5, a6] (aQ l0 :: r) σ := ev_go f_Ord_begin_48 rfl
theorem f_Ord_begin_49 : fetch 34 49 = some (.iconst 0) := by decide +kernel
theorem e_Ord_begin_49 (a0 a1 a2 a3 a4 a5 a6 : AV) (σ : aM) (r : List AV)  : ev 34 49 [a0, a1, a2, a3, a4, a5, a6] (r) σ = ev 34 50 [a0, a1, a2, a3, a4, a5, a6] (aI 0 :: r) σ := ev_go f_Ord_begin_49 rfl
theorem f_Ord_begin_50 : fetch 34 50 = some (.putfield 39) := by decide +kernel
theorem e_Ord_begin_50 (a0 a1 a2 a3 a4 a5 a6 : AV) (σ : aM) (i : Int) (x : Int) (r : List AV)  : ev 34 50 [a0, a1, a2, a3, a4, a5, a6] (aI x :: aR 8 i :: r) σ = ev 34 53 [a0, a1, a2, a3, a4, a5, a6] (r) (uI σ 8 i 10 x) := ev_go f_Ord_begin_50 rfl
theorem f_Ord_begin_53 : fetch 34 53 = some (.return_) := by decide +kernel
theorem e_Ord_begin_53 (a0 a1 a2 a3 a4 a5 a6 : AV) (σ : aM)  : ev 34 53 [a0, a1, a2, a3, a4, a5, a6] [] σ = some (none, σ) := ev_ret f_Ord_begin_53 rfl
theorem f_Ord_takeOver_0 : fetch 35 0 = some (.aload_n 0) := by decide +kernel
theorem e_Ord_takeOver_0 (a1 : AV) (σ : aM) (l0 : Option (Nat × Int)) (r : List AV)  : ev 35 0 [aQ l0, a1] (r) σ = ev 35 1 [aQ l0, a1] (aQ l0 :: r) σ := ev_go f_Ord_takeOver_0 rfl
theorem f_Ord_takeOver_1 : fetch 35 1 = some (.aload_n 1) := by decide +kernel
theorem e_Ord_takeOver_1 (a0 : AV) (σ : aM) (l1 : Option (Nat × Int)) (r : List AV)  : ev 35 1 [a0, aQ l1] (r) σ = ev 35 2 [a0, aQ l1] (aQ l1 :: r) σ := ev_go f_Ord_takeOver_1 rfl
theorem f_Ord_takeOver_2 : fetch 35 2 = some (.getfield 9) := by decide +kernel
theorem e_Ord_takeOver_2 (a0 a1 : AV) (σ : aM) (i : Int) (r : List AV)  : ev 35 2 [a0, a1] (aR 8 i :: r) σ = ev 35 5 [a0, a1] (aI (gI σ 8 i 1) :: r) σ := ev_go f_Ord_takeOver_2 rfl
theorem f_Ord_takeOver_5 : fetch 35 5 = some (.putfield 9) := by decide +kernel
theorem e_Ord_takeOver_5 (a0 a1 : AV) (σ : aM) (i : Int) (x : Int) (r : List AV)  : ev 35 5 [a0, a1] (aI x :: aR 8 i :: r) σ = ev 35 8 [a0, a1] (r) (uI σ 8 i 1 x) := ev_go f_Ord_takeOver_5 rfl
theorem f_Ord_takeOver_8 : fetch 35 8 = some (.aload_n 0) := by decide +kernel
theorem e_Ord_takeOver_8 (a1 : AV) (σ : aM) (l0 : Option (Nat × Int)) (r : List AV)  : ev 35 8 [aQ l0, a1] (r) σ = ev 35 9 [aQ l0, a1] (aQ l0 :: r) σ := ev_go f_Ord_takeOver_8 rfl
theorem f_Ord_takeOver_9 : fetch 35 9 = some (.aload_n 1) := by decide +kernel
theorem e_Ord_takeOver_9 (a0 : AV) (σ : aM) (l1 : Option (Nat × Int)) (r : List AV)  : ev 35 9 [a0, aQ l1] (r) σ = ev 35 10 [a0, aQ l1] (aQ l1 :: r) σ := ev_go f_Ord_takeOver_9 rfl
theorem f_Ord_takeOver_10 : fetch 35 10 = some (.getfield 15) := by decide +kernel
theorem e_Ord_takeOver_10 (a0 a1 : AV) (σ : aM) (i : Int) (r : List AV)  : ev 35 10 [a0, a1] (aR 8 i :: r) σ = ev 35 13 [a0, a1] (aI (gI σ 8 i 2) :: r) σ := ev_go f_Ord_takeOver_10 rfl
theorem f_Ord_takeOver_13 : fetch 35 13 = some (.putfield 15) := by decide +kernel
theorem e_Ord_takeOver_13 (a0 a1 : AV) (σ : aM) (i : Int) (x : Int) (r : List AV)  : ev 35 13 [a0, a1] (aI x :: aR 8 i :: r) σ = ev 35 16 [a0, a1] (r) (uI σ 8 i 2 x) := ev_go f_Ord_takeOver_13 rfl
theorem f_Ord_takeOver_16 : fetch 35 16 = some (.aload_n 0) := by decide +kernel
theorem e_Ord_takeOver_16 (a1 : AV) (σ : aM) (l0 : Option (Nat × Int)) (r : List AV)  : ev 35 16 [aQ l0, a1] (r) σ = ev 35 17 [aQ l0, a1] (aQ l0 :: r) σ := ev_go f_Ord_takeOver_16 rfl
theorem f_Ord_takeOver_17 : fetch 35 17 = some (.aload_n 1) := by decide +kernel
theorem e_Ord_takeOver_17 (a0 : AV) (σ : aM) (l1 : Option (Nat × Int)) (r : List AV)  : ev 35 17 [a0, aQ l1] (r) σ = ev 35 18 [a0, aQ l1] (aQ l1 :: r) σ := ev_go f_Ord_takeOver_17 rfl
theorem f_Ord_takeOver_18 : fetch 35 18 = some (.getfield 18) := by decide +kernel
theorem e_Ord_takeOver_18 (a0 a1 : AV) (σ : aM) (i : Int) (r : List AV)  : ev 35 18 [a0, a1] (aR 8 i :: r) σ = ev 35 21 [a0, a1] (aI (gI σ 8 i 3) :: r) σ := ev_go f_Ord_takeOver_18 rfl
theorem f_Ord_takeOver_21 : fetch 35 21 = some (.putfield 18) := by decide +kernel
theorem e_Ord_takeOver_21 (a0 a1 : AV) (σ : aM) (i : Int) (x : Int) (r : List AV)  : ev 35 21 [a0, a1] (aI x :: aR 8 i :: r) σ = ev 35 24 [a0, a1] (r) (uI σ 8 i 3 x) := ev_go f_Ord_takeOver_21 rfl
theorem f_Ord_takeOver_24 : fetch 35 24 = some (.aload_n 0) := by decide +kernel
theorem e_Ord_takeOver_24 (a1 : AV) (σ : aM) (l0 : Option (Nat × Int)) (r : List AV)  : ev 35 24 [aQ l0, a1] (r) σ = ev 35 25 [aQ l0, a1] (aQ l0 :: r) σ := ev_go f_Ord_takeOver_24 rfl
theorem f_Ord_takeOver_25 : fetch 35 25 = some (.aload_n 1) := by decide +kernel
theorem e_Ord_takeOver_25 (a0 : AV) (σ : aM) (l1 : Option (Nat × Int)) (r : List AV)  : ev 35 25 [a0, aQ l1] (r) σ = ev 35 26 [a0, aQ l1] (aQ l1 :: r) σ := ev_go f_Ord_takeOver_25 rfl
theorem f_Ord_takeOver_26 : fetch 35 26 = some (.getfield 21) := by decide +kernel
theorem e_Ord_takeOver_26 (a0 a1 : AV) (σ : aM) (i : Int) (r : List AV)  : ev 35 26 [a0, a1] (aR 8 i :: r) σ = ev 35 29 [a0, a1] (aI (gI σ 8 i 4) :: r) σ := ev_go f_Ord_takeOver_26 rfl
theorem f_Ord_takeOver_29 : fetch 35 29 = some (.putfield 21) := by decide +kernel
theorem e_Ord_takeOver_29 (a0 a1 : AV) (σ : aM) (i : Int) (x : Int) (r : List AV)  : ev 35 29 [a0, a1] (aI x :: aR 8 i :: r) σ = ev 35 32 [a0, a1] (r) (uI σ 8 i 4 x) := ev_go f_Ord_takeOver_29 rfl
theorem f_Ord_takeOver_32 : fetch 35 32 = some (.aload_n 0) := by decide +kernel
theorem e_Ord_takeOver_32 (a1 : AV) (σ : aM) (l0 : Option (Nat × Int)) (r : List AV)  : ev 35 32 [aQ l0, a1] (r) σ = ev 35 33 [aQ l0, a1] (aQ l0 :: r) σ := ev_go f_Ord_takeOver_32 rfl
theorem f_Ord_takeOver_33 : fetch 35 33 = some (.aload_n 1) := by decide +kernel
theorem e_Ord_takeOver_33 (a0 : AV) (σ : aM) (l1 : Option (Nat × Int)) (r : List AV)  : ev 35 33 [a0, aQ l1] (r) σ = ev 35 34 [a0, aQ l1] (aQ l1 :: r) σ := ev_go f_Ord_takeOver_33 rfl
theorem f_Ord_takeOver_34 : fetch 35 34 = some (.getfield 24) := by decide +kernel
theorem e_Ord_takeOver_34 (a0 a1 : AV) (σ : aM) (i : Int) (r : List AV)  : ev 35 34 [a0, a1] (aR 8 i :: r) σ = ev 35 37 [a0, a1] (aI (gI σ 8 i 5) :: r) σ := ev_go f_Ord_takeOver_34 rfl
theorem f_Ord_takeOver_37 : fetch 35 37 = some (.putfield 24) := by decide +kernel
theorem e_Ord_takeOver_37 (a0 a1 : AV) (σ : aM) (i : Int) (x : Int) (r : List AV)  : ev 35 37 [a0, a1] (aI x :: aR 8 i :: r) σ = ev 35 40 [a0, a1] (r) (uI σ 8 i 5 x) := ev_go f_Ord_takeOver_37 rfl
theorem f_Ord_takeOver_40 : fetch 35 40 = some (.aload_n 0) := by decide +kernel
theorem e_Ord_takeOver_40 (a1 : AV) (σ : aM) (l0 : Option (Nat × Int)) (r : List AV)  : ev 35 40 [aQ l0, a1] (r) σ = ev 35 41 [aQ l0, a1] (aQ l0 :: r) σ := ev_go f_Ord_takeOver_40 rfl
theorem f_Ord_takeOver_41 : fetch 35 41 = some (.aload_n 1) := by decide +kernel
theorem e_Ord_takeOver_41 (a0 : AV) (σ : aM) (l1 : Option (Nat × Int)) (r : List AV)  : ev 35 41 [a0, aQ l1] (r) σ = ev 35 42 [a0, aQ l1] (aQ l1 :: r) σ := ev_go f_Ord_takeOver_41 rfl
theorem f_Ord_takeOver_42 : fetch 35 42 = some (.getfield 27) := by decide +kernel
theorem e_Ord_takeOver_42 (a0 a1 : AV) (σ : aM) (i : Int) (r : List AV)  : ev 35 42 [a0, a1] (aR 8 i :: r) σ = ev 35 45 [a0, a1] (aI (gI σ 8 i 6) :: r) σ := ev_go f_Ord_takeOver_42 rfl
theorem f_Ord_takeOver_45 : fetch 35 45 = some (.putfield 27) := by decide +kernel
theorem e_Ord_takeOver_45 (a0 a1 : AV) (σ : aM) (i : Int) (x : Int) (r : List AV)  : ev 35 45 [a0, a1] (aI x :: aR 8 i :: r) σ = ev 35 48 [a0, a1] (r) (uI σ 8 i 6 x) := ev_go f_Ord_takeOver_45 rfl
theorem f_Ord_takeOver_48 : fetch 35 48 = some (.aload_n 0) := by decide +kernel
theorem e_Ord_takeOver_48 (a1 : AV) (σ : aM) (l0 : Option (Nat × Int)) (r : List AV)  : ev 35 48 [aQ l0, a1] (r) σ = ev 35 49 [aQ l0, a1] (aQ l0 :: r) σ := ev_go f_Ord_takeOver_48 rfl
theorem f_Ord_takeOver_49 : fetch 35 49 = some (.aload_n 1) := by decide +kernel
theorem e_Ord_takeOver_49 (a0 : AV) (σ : aM) (l1 : Option (Nat × Int)) (r : List AV)  : ev 35 49 [a0, aQ l1] (r) σ = ev 35 50 [a0, aQ l1] (aQ l1 :: r) σ := ev_go f_Ord_takeOver_49 rfl
theorem f_Ord_takeOver_50 : fetch 35 50 = some (.getfield 30) := by decide +kernel
theorem e_Ord_takeOver_50 (a0 a1 : AV) (σ : aM) (i : Int) (r : List AV)  : ev 35 50 [a0, a1] (aR 8 i :: r) σ = ev 35 53 [a0, a1] (aI (gI σ 8 i 7) :: r) σ := ev_go f_Ord_takeOver_50 rfl
theorem f_Ord_takeOver_53 : fetch 35 53 = some (.putfield 30) := by decide +kernel
theorem e_Ord_takeOver_53 (a0 a1 : AV) (σ : aM) (i : Int) (x : Int) (r : List AV)  : ev 35 53 [a0, a1] (aI x :: aR 8 i :: r) σ = ev 35 56 [a0, a1] (r) (uI σ 8 i 7 x) := ev_go f_Ord_takeOver_53 rfl
theorem f_Ord_takeOver_56 : fetch 35 56 = some (.aload_n 0) := by decide +kernel
theorem e_Ord_takeOver_56 (a1 : AV) (σ : aM) (l0 : Option (Nat × Int)) (r : List AV)  : ev 35 56 [aQ l0, a1] (r) σ = ev 35 57 [aQ l0, a1] (aQ l0 :: r) σ := ev_go f_Ord_takeOver_56 rfl
theorem f_Ord_takeOver_57 : fetch 35 57 = some (.aload_n 1) := by decide +kernel
theorem e_Ord_takeOver_57 (a0 : AV) (σ : aM) (l1 : Option (Nat × Int)) (r : List AV)  : ev 35 57 [a0, aQ l1] (r) σ = ev 35 58 [a0, aQ l1] (aQ l1 :: r) σ := ev_go f_Ord_takeOver_57 rfl
theorem f_Ord_takeOver_58 : fetch 35 58 = some (.getfield 33) := by decide +kernel
theorem e_Ord_takeOver_58 (a0 a1 : AV) (σ : aM) (i : Int) (r : List AV)  : ev 35 58 [a0, a1] (aR 8 i :: r) σ = ev 35 61 [a0, a1] (aI (gI σ 8 i 8) :: r) σ := ev_go f_Ord_takeOver_58 rfl
theorem f_Ord_takeOver_61 : fetch 35 61 = some (.putfield 33) := by decide +kernel
theorem e_Ord_takeOver_61 (a0 a1 : AV) (σ : aM) (i : Int) (x : Int) (r : List AV)  : ev 35 61 [a0, a1] (aI x :: aR 8 i :: r) σ = ev 35 64 [a0, a1] (r) (uI σ 8 i 8 x) := ev_go f_Ord_takeOver_61 rfl
theorem f_Ord_takeOver_64 : fetch 35 64 = some (.aload_n 0) := by decide +kernel
theorem e_Ord_takeOver_64 (a1 : AV) (σ : aM) (l0 : Option (Nat × Int)) (r : List AV)  : ev 35 64 [aQ l0, a1] (r) σ = ev 35 65 [aQ l0, a1] (aQ l0 :: r) σ := ev_go f_Ord_takeOver_64 rfl
theorem f_Ord_takeOver_65 : fetch 35 65 = some (.aload_n 1) := by decide +kernel
theorem e_Ord_takeOver_65 (a0 : AV) (σ : aM) (l1 : Option (Nat × Int)) (r : List AV)  : ev 35 65 [a0, aQ l1] (r) σ = ev 35 66 [a0, aQ l1] (aQ l1 :: r) σ := ev_go f_Ord_takeOver_65 rfl
theorem f_Ord_takeOver_66 : fetch 35 66 = some (.getfield 36) := by decide +kernel
theorem e_Ord_takeOver_66 (a0 a1 : AV) (σ : aM) (i : Int) (r : List AV)  : ev 35 66 [a0, a1] (aR 8 i :: r) σ = ev 35 69 [a0, a1] (aI (gI σ 8 i 9) :: r) σ := ev_go f_Ord_takeOver_66 rfl
theorem f_Ord_takeOver_69 : fetch 35 69 = some (.putfield 36) := by decide +kernel
theorem e_Ord_takeOver_69 (a0 a1 : AV) (σ : aM) (i : Int) (x : Int) (r : List AV)  : ev 35 69 [a0, a1] (aI x :: aR 8 i :: r) σ = ev 35 72 [a0, a1] (r) (uI σ 8 i 9 x) := ev_go f_Ord_takeOver_69 rfl
theorem f_Ord_takeOver_72 : fetch 35 72 = some (.aload_n 0) := by decide +kernel
theorem e_Ord_takeOver_72 (a1 : AV) (σ : aM) (l0 : Option (Nat × Int)) (r : List AV)  : ev 35 72 [aQ l0, a1] (r) σ = ev 35 73 [aQ l0, a1] (aQ l0 :: r) σ := ev_go f_Ord_takeOver_72 rfl
theorem f_Ord_takeOver_73 : fetch 35 73 = some (.aload_n 1) := by decide +kernel
theorem e_Ord_takeOver_73 (a0 : AV) (σ : aM) (l1 : Option (Nat × Int)) (r : List AV)  : ev 35 73 [a0, aQ l1] (r) σ = ev 35 74 [a0, aQ l1] (aQ l1 :: r) σ := ev_go f_Ord_takeOver_73 rfl
theorem f_Ord_takeOver_74 : fetch 35 74 = some (.getfield 39) := by decide +kernel
theorem e_Ord_takeOver_74 (a0 a1 : AV) (σ : aM) (i : Int) (r : List AV)  : ev 35 74 [a0, a1] (aR 8 i :: r) σ = ev 35 77 [a0, a1] (aI (gI σ 8 i 10) :: r) σ := ev_go f_Ord_takeOver_74 rfl
theorem f_Ord_takeOver_77 : fetch 35 77 = some (.putfield 39) := by decide +kernel
theorem e_Ord_takeOver_77 (a0 a1 : AV) (σ : aM) (i : Int) (x : Int) (r : List AV)  : ev 35 77 [a0, a1] (aI x :: aR 8 i :: r) σ = ev 35 80 [a0, a1] (r) (uI σ 8 i 10 x) := ev_go f_Ord_takeOver_77 rfl
theorem f_Ord_takeOver_80 : fetch 35 80 = some (.return_) := by decide +kernel
theorem e_Ord_takeOver_80 (a0 a1 : AV) (σ : aM)  : ev 35 80 [a0, a1] [] σ = some (none, σ) := ev_ret f_Ord_takeOver_80 rfl
theorem f_Ord_isUnder_0 : fetch 36 0 = some (.iload_n 1) := by decide +kernel
theorem e_Ord_isUnder_0 (a0 : AV) (σ : aM) (l1 : Int) (r : List AV)  : ev 36 0 [a0, aI l1] (r) σ = ev 36 1 [a0, aI l1] (aI l1 :: r) σ := ev_go f_Ord_isUnder_0 rfl
theorem f_Ord_isUnder_1 : fetch 36 1 = some (.ifCond .eq 24) := by decide +kernel
theorem e_Ord_isUnder_1 (a0 a1 : AV) (σ : aM) (x : Int) (r : List AV) : ev 36 1 [a0, a1] (aI x :: r) σ = if x = 0 then ev 36 25 [a0, a1] r σ else ev 36 4 [a0, a1] r σ := ev_br f_Ord_isUnder_1 rfl bc_eq
theorem f_Ord_isUnder_4 : fetch 36 4 = some (.iload_n 1) := by decide +kernel
theorem e_Ord_isUnder_4 (a0 : AV) (σ : aM) (l1 : Int) (r : List AV)  : ev 36 4 [a0, aI l1] (r) σ = ev 36 5 [a0, aI l1] (aI l1 :: r) σ := ev_go f_Ord_isUnder_4 rfl
theorem f_Ord_isUnder_5 : fetch 36 5 = some (.aload_n 0) := by decide +kernel
theorem e_Ord_isUnder_5 (a1 : AV) (σ : aM) (l0 : Option (Nat × Int)) (r : List AV)  : ev 36 5 [aQ l0, a1] (r) σ = ev 36 6 [aQ l0, a1] (aQ l0 :: r) σ := ev_go f_Ord_isUnder_5 rfl
theorem f_Ord_isUnder_6 : fetch 36 6 = some (.getfield 9) := by decide +kernel
theorem e_Ord_isUnder_6 (a0 a1 : AV) (σ : aM) (i : Int) (r : List AV)  : ev 36 6 [a0, a1] (aR 8 i :: r) σ = ev 36 9 [a0, a1] (aI (gI σ 8 i 1) :: r) σ := ev_go f_Ord_isUnder_6 rfl
theorem f_Ord_isUnder_9 : fetch 36 9 = some (.if_icmp .eq 16) := by decide +kernel
theorem e_Ord_isUnder_9 (a0 a1 : AV) (σ : aM) (x z : Int) (r : List AV) : ev 36 9 [a0, a1] (aI z :: aI x :: r) σ = if x = z then ev 36 25 [a0, a1] r σ else ev 36 12 [a0, a1] r σ := ev_br f_Ord_isUnder_9 rfl bc_eq
theorem f_Ord_isUnder_12 : fetch 36 12 = some (.iload_n 1) := by decide +kernel
theorem e_Ord_isUnder_12 (a0 : AV) (σ : aM) (l1 : Int) (r : List AV)  : ev 36 12 [a0, aI l1] (r) σ = ev 36 13 [a0, aI l1] (aI l1 :: r) σ := ev_go f_Ord_isUnder_12 rfl
theorem f_Ord_isUnder_13 : fetch 36 13 = some (.iconst 1) := by decide +kernel
theorem e_Ord_isUnder_13 (a0 a1 : AV) (σ : aM) (r : List AV)  : ev 36 13 [a0, a1] (r) σ = ev 36 14 [a0, a1] (aI 1 :: r) σ := ev_go f_Ord_isUnder_13 rfl
theorem f_Ord_isUnder_14 : fetch 36 14 = some (.if_icmp .ne 15) := by decide +kernel
theorem e_Ord_isUnder_14 (a0 a1 : AV) (σ : aM) (x z : Int) (r : List AV) : ev 36 14 [a0, a1] (aI z :: aI x :: r) σ = if ¬ x = z then ev 36 29 [a0, a1] r σ else ev 36 17 [a0, a1] r σ := ev_br f_Ord_isUnder_14 rfl bc_ne
theorem f_Ord_isUnder_17 : fetch 36 17 = some (.aload_n 0) := by decide +kernel
theorem e_Ord_isUnder_17 (a1 : AV) (σ : aM) (l0 : Option (Nat × Int)) (r : List AV)  : ev 36 17 [aQ l0, a1] (r) σ = ev 36 18 [aQ l0, a1] (aQ l0 :: r) σ := ev_go f_Ord_isUnder_17 rfl
theorem f_Ord_isUnder_18 : fetch 36 18 = some (.getfield 9) := by decide +kernel
theorem e_Ord_isUnder_18 (a0 a1 : AV) (σ : aM) (i : Int) (r : List AV)  : ev 36 18 [a0, a1] (aR 8 i :: r) σ = ev 36 21 [a0, a1] (aI (gI σ 8 i 1) :: r) σ := ev_go f_Ord_isUnder_18 rfl
theorem f_Ord_isUnder_21 : fetch 36 21 = some (.iconst 2) := by decide +kernel
theorem e_Ord_isUnder_21 (a0 a1 : AV) (σ : aM) (r : List AV)  : ev 36 21 [a0, a1] (r) σ = ev 36 22 [a0, a1] (aI 2 :: r) σ := ev_go f_Ord_isUnder_21 rfl
theorem f_Ord_isUnder_22 : fetch 36 22 = some (.if_icmp .ne 7) := by decide +kernel
theorem e_Ord_isUnder_22 (a0 a1 : AV) (σ : aM) (x z : Int) (r : List AV) : ev 36 22 [a0, a1] (aI z :: aI x :: r) σ = if ¬ x = z then ev 36 29 [a0, a1] r σ else ev 36 25 [a0, a1] r σ := ev_br f_Ord_isUnder_22 rfl bc_ne
theorem f_Ord_isUnder_25 : fetch 36 25 = some (.iconst 1) := by decide +kernel
theorem e_Ord_isUnder_25 (a0 a1 : AV) (σ : aM) (r : List AV)  : ev 36 25 [a0, a1] (r) σ = ev 36 26 [a0, a1] (aI 1 :: r) σ := ev_go f_Ord_isUnder_25 rfl
theorem f_Ord_isUnder_26 : fetch 36 26 = some (.goto 4) := by decide +kernel
theorem e_Ord_isUnder_26 (a0 a1 : AV) (σ : aM) (r : List AV)  : ev 36 26 [a0, a1] (r) σ = ev 36 30 [a0, a1] (r) σ := ev_go f_Ord_isUnder_26 rfl
theorem f_Ord_isUnder_29 : fetch 36 29 = some (.iconst 0) := by decide +kernel
theorem e_Ord_isUnder_29 (a0 a1 : AV) (σ : aM) (r : List AV)  : ev 36 29 [a0, a1] (r) σ = ev 36 30 [a0, a1] (aI 0 :: r) σ := ev_go f_Ord_isUnder_29 rfl
theorem f_Ord_isUnder_30 : fetch 36 30 = some (.ireturn) := by decide +kernel
theorem e_Ord_isUnder_30 (a0 a1 : AV) (σ : aM) (x : Int) (h : x = 0 ∨ x = 1) : ev 36 30 [a0, a1] [aI x] σ = some ((some (aI x)), σ) := ev_rB f_Ord_isUnder_30 rfl h
theorem f_Ord_canBeAmended_0 : fetch 37 0 = some (.aload_n 0) := by decide +kernel
theorem e_Ord_canBeAmended_0 (σ : aM) (l0 : Option (Nat × Int)) (r : List AV)  : ev 37 0 [aQ l0] (r) σ = ev 37 1 [aQ l0] (aQ l0 :: r) σ := ev_go f_Ord_canBeAmended_0 rfl
theorem f_Ord_canBeAmended_1 : fetch 37 1 = some (.getfield 9) := by decide +kernel
theorem e_Ord_canBeAmended_1 (a0 : AV) (σ : aM) (i : Int) (r : List AV)  : ev 37 1 [a0] (aR 8 i :: r) σ = ev 37 4 [a0] (aI (gI σ 8 i 1) :: r) σ := ev_go f_Ord_canBeAmended_1 rfl
theorem f_Ord_canBeAmended_4 : fetch 37 4 = some (.iconst 4) := by decide +kernel
theorem e_Ord_canBeAmended_4 (a0 : AV) (σ : aM) (r : List AV)  : ev 37 4 [a0] (r) σ = ev 37 5 [a0] (aI 4 :: r) σ := ev_go f_Ord_canBeAmended_4 rfl
theorem f_Ord_canBeAmended_5 : fetch 37 5 = some (.if_icmp .ne 18) := by decide +kernel
theorem e_Ord_canBeAmended_5 (a0 : AV) (σ : aM) (x z : Int) (r : List AV) : ev 37 5 [a0] (aI z :: aI x :: r) σ = if ¬ x = z then ev 37 23 [a0] r σ else ev 37 8 [a0] r σ := ev_br f_Ord_canBeAmended_5 rfl bc_ne
theorem f_Ord_canBeAmended_8 : fetch 37 8 = some (.aload_n 0) := by decide +kernel
theorem e_Ord_canBeAmended_8 (σ : aM) (l0 : Option (Nat × Int)) (r : List AV)  : ev 37 8 [aQ l0] (r) σ = ev 37 9 [aQ l0] (aQ l0 :: r) σ := ev_go f_Ord_canBeAmended_8 rfl
theorem f_Ord_canBeAmended_9 : fetch 37 9 = some (.getfield 24) := by decide +kernel
theorem e_Ord_canBeAmended_9 (a0 : AV) (σ : aM) (i : Int) (r : List AV)  : ev 37 9 [a0] (aR 8 i :: r) σ = ev 37 12 [a0] (aI (gI σ 8 i 5) :: r) σ := ev_go f_Ord_canBeAmended_9 rfl
theorem f_Ord_canBeAmended_12 : fetch 37 12 = some (.ifCond .ne 7) := by decide +kernel
theorem e_Ord_canBeAmended_12 (a0 : AV) (σ : aM) (x : Int) (r : List AV) : ev 37 12 [a0] (aI x :: r) σ = if ¬ x = 0 then ev 37 19 [a0] r σ else ev 37 15 [a0] r σ := ev_br f_Ord_canBeAmended_12 rfl bc_ne
theorem f_Ord_canBeAmended_15 : fetch 37 15 = some (.iconst 1) := by decide +kernel
theorem e_Ord_canBeAmended_15 (a0 : AV) (σ : aM) (r : List AV)  : ev 37 15 [a0] (r) σ = ev 37 16 [a0] (aI 1 :: r) σ := ev_go f_Ord_canBeAmended_15 rfl
theorem f_Ord_canBeAmended_16 : fetch 37 16 = some (.goto 28) := by decide +kernel
theorem e_Ord_canBeAmended_16 (a0 : AV) (σ : aM) (r : List AV)  : ev 37 16 [a0] (r) σ = ev 37 44 [a0] (r) σ := ev_go f_Ord_canBeAmended_16 rfl
theorem f_Ord_canBeAmended_19 : fetch 37 19 = some (.iconst 0) := by decide +kernel
theorem e_Ord_canBeAmended_19 (a0 : AV) (σ : aM) (r : List AV)  : ev 37 19 [a0] (r) σ = ev 37 20 [a0] (aI 0 :: r) σ := ev_go f_Ord_canBeAmended_19 rfl
theorem f_Ord_canBeAmended_20 : fetch 37 20 = some (.goto 24) := by decide +kernel
theorem e_Ord_canBeAmended_20 (a0 : AV) (σ : aM) (r : List AV)  : ev 37 20 [a0] (r) σ = ev 37 44 [a0] (r) σ := ev_go f_Ord_canBeAmended_20 rfl
theorem f_Ord_canBeAmended_23 : fetch 37 23 = some (.aload_n 0) := by decide +kernel
theorem e_Ord_canBeAmended_23 (σ : aM) (l0 : Option (Nat × Int)) (r : List AV)  : ev 37 23 [aQ l0] (r) σ = ev 37 24 [aQ l0] (aQ l0 :: r) σ := ev_go f_Ord_canBeAmended_23 rfl
theorem f_Ord_canBeAmended_24 : fetch 37 24 = some (.getfield 9) := by decide +kernel
theorem e_Ord_canBeAmended_24 (a0 : AV) (σ : aM) (i : Int) (r : List AV)  : ev 37 24 [a0] (aR 8 i :: r) σ = ev 37 27 [a0] (aI (gI σ 8 i 1) :: r) σ := ev_go f_Ord_canBeAmended_24 rfl
theorem f_Ord_canBeAmended_27 : fetch 37 27 = some (.iconst 3) := by decide +kernel
theorem e_Ord_canBeAmended_27 (a0 : AV) (σ : aM) (r : List AV)  : ev 37 27 [a0] (r) σ = ev 37 28 [a0] (aI 3 :: r) σ := ev_go f_Ord_canBeAmended_27 rfl
theorem f_Ord_canBeAmended_28 : fetch 37 28 = some (.if_icmp .eq 15) := by decide +kernel
theorem e_Ord_canBeAmended_28 (a0 : AV) (σ : aM) (x z : Int) (r : List AV) : ev 37 28 [a0] (aI z :: aI x :: r) σ = if x = z then ev 37 43 [a0] r σ else ev 37 31 [a0] r σ := ev_br f_Ord_canBeAmended_28 rfl bc_eq
theorem f_Ord_canBeAmended_31 : fetch 37 31 = some (.aload_n 0) := by decide +kernel
theorem e_Ord_canBeAmended_31 (σ : aM) (l0 : Option (Nat × Int)) (r : List AV)  : ev 37 31 [aQ l0] (r) σ = ev 37 32 [aQ l0] (aQ l0 :: r) σ := ev_go f_Ord_canBeAmended_31 rfl
theorem f_Ord_canBeAmended_32 : fetch 37 32 = some (.getfield 24) := by decide +kernel
theorem e_Ord_canBeAmended_32 (a0 : AV) (σ : aM) (i : Int) (r : List AV)  : ev 37 32 [a0] (aR 8 i :: r) σ = ev 37 35 [a0] (aI (gI σ 8 i 5) :: r) σ := ev_go f_Ord_canBeAmended_32 rfl
theorem f_Ord_canBeAmended_35 : fetch 37 35 = some (.iconst 1) := by decide +kernel
theorem e_Ord_canBeAmended_35 (a0 : AV) (σ : aM) (r : List AV)  : ev 37 35 [a0] (r) σ = ev 37 36 [a0] (aI 1 :: r) σ := ev_go f_Ord_canBeAmended_35 rfl
theorem f_Ord_canBeAmended_36 : fetch 37 36 = some (.if_icmp .ne 7) := by decide +kernel
theorem e_Ord_canBeAmended_36 (a0 : AV) (σ : aM) (x z : Int) (r : List AV) : ev 37 36 [a0] (aI z :: aI x :: r) σ = if ¬ x = z then ev 37 43 [a0] r σ else ev 37 39 [a0] r σ := ev_br f_Ord_canBeAmended_36 rfl bc_ne
theorem f_Ord_canBeAmended_39 : fetch 37 39 = some (.iconst 1) := by decide +kernel
theorem e_Ord_canBeAmended_39 (a0 : AV) (σ : aM) (r : List AV)  : ev 37 39 [a0] (r) σ = ev 37 40 [a0] (aI 1 :: r) σ := ev_go f_Ord_canBeAmended_39 rfl
theorem f_Ord_canBeAmended_40 : fetch 37 40 = some (.goto 4) := by decide +kernel
theorem e_Ord_canBeAmended_40 (a0 : AV) (σ : aM) (r : List AV)  : ev 37 40 [a0] (r) σ = ev 37 44 [a0] (r) σ := ev_go f_Ord_canBeAmended_40 rfl
theorem f_Ord_canBeAmended_43 : fetch 37 43 = some (.iconst 0) := by decide +kernel
theorem e_Ord_canBeAmended_43 (a0 : AV) (σ : aM) (r : List AV)  : ev 37 43 [a0] (r) σ = ev 37 44 [a0] (aI 0 :: r) σ := ev_go f_Ord_canBeAmended_43 rfl
theorem f_Ord_canBeAmended_44 : fetch 37 44 = some (.ireturn) := by decide +kernel
theorem e_Ord_canBeAmended_44 (a0 : AV) (σ : aM) (x : Int) (h : x = 0 ∨ x = 1) : ev 37 44 [a0] [aI x] σ = some ((some (aI x)), σ) := ev_rB f_Ord_canBeAmended_44 rfl h
theorem f_Ord_restsOn_0 : fetch 38 0 = some (.aload_n 0) := by decide +kernel
theorem e_Ord_restsOn_0 (a1 : AV) (σ : aM) (l0 : Option (Nat × Int)) (r : List AV)  : ev 38 0 [aQ l0, a1] (r) σ = ev 38 1 [aQ l0, a1] (aQ l0 :: r) σ := ev_go f_Ord_restsOn_0 rfl
theorem f_Ord_restsOn_1 : fetch 38 1 = some (.getfield 24) := by decide +kernel
theorem e_Ord_restsOn_1 (a0 a1 : AV) (σ : aM) (i : Int) (r : List AV)  : ev 38 1 [a0, a1] (aR 8 i :: r) σ = ev 38 4 [a0, a1] (aI (gI σ 8 i 5) :: r) σ := ev_go f_Ord_restsOn_1 rfl
theorem f_Ord_restsOn_4 : fetch 38 4 = some (.iconst 1) := by decide +kernel
theorem e_Ord_restsOn_4 (a0 a1 : AV) (σ : aM) (r : List AV)  : ev 38 4 [a0, a1] (r) σ = ev 38 5 [a0, a1] (aI 1 :: r) σ := ev_go f_Ord_restsOn_4 rfl
theorem f_Ord_restsOn_5 : fetch 38 5 = some (.if_icmp .ne 15) := by decide +kernel
theorem e_Ord_restsOn_5 (a0 a1 : AV) (σ : aM) (x z : Int) (r : List AV) : ev 38 5 [a0, a1] (aI z :: aI x :: r) σ = if ¬ x = z then ev 38 20 [a0, a1] r σ else ev 38 8 [a0, a1] r σ := ev_br f_Ord_restsOn_5 rfl bc_ne
theorem f_Ord_restsOn_8 : fetch 38 8 = some (.aload_n 0) := by decide +kernel
theorem e_Ord_restsOn_8 (a1 : AV) (σ : aM) (l0 : Option (Nat × Int)) (r : List AV)  : ev 38 8 [aQ l0, a1] (r) σ = ev 38 9 [aQ l0, a1] (aQ l0 :: r) σ := ev_go f_Ord_restsOn_8 rfl
theorem f_Ord_restsOn_9 : fetch 38 9 = some (.getfield 18) := by decide +kernel
theorem e_Ord_restsOn_9 (a0 a1 : AV) (σ : aM) (i : Int) (r : List AV)  : ev 38 9 [a0, a1] (aR 8 i :: r) σ = ev 38 12 [a0, a1] (aI (gI σ 8 i 3) :: r) σ := ev_go f_Ord_restsOn_9 rfl
theorem f_Ord_restsOn_12 : fetch 38 12 = some (.iload_n 1) := by decide +kernel
theorem e_Ord_restsOn_12 (a0 : AV) (σ : aM) (l1 : Int) (r : List AV)  : ev 38 12 [a0, aI l1] (r) σ = ev 38 13 [a0, aI l1] (aI l1 :: r) σ := ev_go f_Ord_restsOn_12 rfl
theorem f_Ord_restsOn_13 : fetch 38 13 = some (.if_icmp .ne 7) := by decide +kernel
theorem e_Ord_restsOn_13 (a0 a1 : AV) (σ : aM) (x z : Int) (r : List AV) : ev 38 13 [a0, a1] (aI z :: aI x :: r) σ = if ¬ x = z then ev 38 20 [a0, a1] r σ else ev 38 16 [a0, a1] r σ := ev_br f_Ord_restsOn_13 rfl bc_ne
theorem f_Ord_restsOn_16 : fetch 38 16 = some (.iconst 1) := by decide +kernel
theorem e_Ord_restsOn_16 (a0 a1 : AV) (σ : aM) (r : List AV)  : ev 38 16 [a0, a1] (r) σ = ev 38 17 [a0, a1] (aI 1 :: r) σ := ev_go f_Ord_restsOn_16 rfl
theorem f_Ord_restsOn_17 : fetch 38 17 = some (.goto 4) := by decide +kernel
theorem e_Ord_restsOn_17 (a0 a1 : AV) (σ : aM) (r : List AV)  : ev 38 17 [a0, a1] (r) σ = ev 38 21 [a0, a1] (r) σ := ev_go f_Ord_restsOn_17 rfl
theorem f_Ord_restsOn_20 : fetch 38 20 = some (.iconst 0) := by decide +kernel
theorem e_Ord_restsOn_20 (a0 a1 : AV) (σ : aM) (r : List AV)  : ev 38 20 [a0, a1] (r) σ = ev 38 21 [a0, a1] (aI 0 :: r) σ := ev_go f_Ord_restsOn_20 rfl
theorem f_Ord_restsOn_21 : fetch 38 21 = some (.ireturn) := by decide +kernel
theorem e_Ord_restsOn_21 (a0 a1 : AV) (σ : aM) (x : Int) (h : x = 0 ∨ x = 1) : ev 38 21 [a0, a1] [aI x] σ = some ((some (aI x)), σ) := ev_rB f_Ord_restsOn_21 rfl h
theorem f_Ord_visibleNow_0 : fetch 39 0 = some (.aload_n 0) := by decide +kernel
theorem e_Ord_visibleNow_0 (σ : aM) (l0 : Option (Nat × Int)) (r : List AV)  : ev 39 0 [aQ l0] (r) σ = ev 39 1 [aQ l0] (aQ l0 :: r) σ := ev_go f_Ord_visibleNow_0 rfl
theorem f_Ord_visibleNow_1 : fetch 39 1 = some (.getfield 24) := by decide +kernel
theorem e_Ord_visibleNow_1 (a0 : AV) (σ : aM) (i : Int) (r : List AV)  : ev 39 1 [a0] (aR 8 i :: r) σ = ev 39 4 [a0] (aI (gI σ 8 i 5) :: r) σ := ev_go f_Ord_visibleNow_1 rfl
theorem f_Ord_visibleNow_4 : fetch 39 4 = some (.iconst 1) := by decide +kernel
theorem e_Ord_visibleNow_4 (a0 : AV) (σ : aM) (r : List AV)  : ev 39 4 [a0] (r) σ = ev 39 5 [a0] (aI 1 :: r) σ := ev_go f_Ord_visibleNow_4 rfl
theorem f_Ord_visibleNow_5 : fetch 39 5 = some (.if_icmp .eq 5) := by decide +kernel
theorem e_Ord_visibleNow_5 (a0 : AV) (σ : aM) (x z : Int) (r : List AV) : ev 39 5 [a0] (aI z :: aI x :: r) σ = if x = z then ev 39 10 [a0] r σ else ev 39 8 [a0] r σ := ev_br f_Ord_visibleNow_5 rfl bc_eq
theorem f_Ord_visibleNow_8 : fetch 39 8 = some (.iconst 0) := by decide +kernel
theorem e_Ord_visibleNow_8 (a0 : AV) (σ : aM) (r : List AV)  : ev 39 8 [a0] (r) σ = ev 39 9 [a0] (aI 0 :: r) σ := ev_go f_Ord_visibleNow_8 rfl
theorem f_Ord_visibleNow_9 : fetch 39 9 = some (.ireturn) := by decide +kernel
theorem e_Ord_visibleNow_9 (a0 : AV) (σ : aM) (x : Int) : ev 39 9 [a0] [aI x] σ = some ((some (aI x)), σ) := ev_ret f_Ord_visibleNow_9 rfl
theorem f_Ord_visibleNow_10 : fetch 39 10 = some (.aload_n 0) := by decide +kernel
theorem e_Ord_visibleNow_10 (σ : aM) (l0 : Option (Nat × Int)) (r : List AV)  : ev 39 10 [aQ l0] (r) σ = ev 39 11 [aQ l0] (aQ l0 :: r) σ := ev_go f_Ord_visibleNow_10 rfl
theorem f_Ord_visibleNow_11 : fetch 39 11 = some (.getfield 9) := by decide +kernel
theorem e_Ord_visibleNow_11 (a0 : AV) (σ : aM) (i : Int) (r : List AV)  : ev 39 11 [a0] (aR 8 i :: r) σ = ev 39 14 [a0] (aI (gI σ 8 i 1) :: r) σ := ev_go f_Ord_visibleNow_11 rfl
theorem f_Ord_visibleNow_14 : fetch 39 14 = some (.iconst 2) := by decide +kernel
theorem e_Ord_visibleNow_14 (a0 : AV) (σ : aM) (r : List AV)  : ev 39 14 [a0] (r) σ = ev 39 15 [a0] (aI 2 :: r) σ := ev_go f_Ord_visibleNow_14 rfl
theorem f_Ord_visibleNow_15 : fetch 39 15 = some (.if_icmp .ne 10) := by decide +kernel
theorem e_Ord_visibleNow_15 (a0 : AV) (σ : aM) (x z : Int) (r : List AV) : ev 39 15 [a0] (aI z :: aI x :: r) σ = if ¬ x = z then ev 39 25 [a0] r σ else ev 39 18 [a0] r σ := ev_br f_Ord_visibleNow_15 rfl bc_ne
theorem f_Ord_visibleNow_18 : fetch 39 18 = some (.aload_n 0) := by decide +kernel
theorem e_Ord_visibleNow_18 (σ : aM) (l0 : Option (Nat × Int)) (r : List AV)  : ev 39 18 [aQ l0] (r) σ = ev 39 19 [aQ l0] (aQ l0 :: r) σ := ev_go f_Ord_visibleNow_18 rfl
theorem f_Ord_visibleNow_19 : fetch 39 19 = some (.getfield 36) := by decide +kernel
theorem e_Ord_visibleNow_19 (a0 : AV) (σ : aM) (i : Int) (r : List AV)  : ev 39 19 [a0] (aR 8 i :: r) σ = ev 39 22 [a0] (aI (gI σ 8 i 9) :: r) σ := ev_go f_Ord_visibleNow_19 rfl
theorem f_Ord_visibleNow_22 : fetch 39 22 = some (.goto 7) := by decide +kernel
theorem e_Ord_visibleNow_22 (a0 : AV) (σ : aM) (r : List AV)  : ev 39 22 [a0] (r) σ = ev 39 29 [a0] (r) σ := ev_go f_Ord_visibleNow_22 rfl
theorem f_Ord_visibleNow_25 : fetch 39 25 = some (.aload_n 0) := by decide +kernel
theorem e_Ord_visibleNow_25 (σ : aM) (l0 : Option (Nat × Int)) (r : List AV)  : ev 39 25 [aQ l0] (r) σ = ev 39 26 [aQ l0] (aQ l0 :: r) σ := ev_go f_Ord_visibleNow_25 rfl
theorem f_Ord_visibleNow_26 : fetch 39 26 = some (.getfield 21) := by decide +kernel
theorem e_Ord_visibleNow_26 (a0 : AV) (σ : aM) (i : Int) (r : List AV)  : ev 39 26 [a0] (aR 8 i :: r) σ = ev 39 29 [a0] (aI (gI σ 8 i 4) :: r) σ := ev_go f_Ord_visibleNow_26 rfl
theorem f_Ord_visibleNow_29 : fetch 39 29 = some (.ireturn) := by decide +kernel
theorem e_Ord_visibleNow_29 (a0 : AV) (σ : aM) (x : Int) : ev 39 29 [a0] [aI x] σ = some ((some (aI x)), σ) := ev_ret f_Ord_visibleNow_29 rfl
theorem f_Ord_priceBy_0 : fetch 40 0 = some (.aload_n 0) := by decide +kernel
theorem e_Ord_priceBy_0 (a1 a2 : AV) (σ : aM) (l0 : Option (Nat × Int)) (r : List AV)  : ev 40 0 [aQ l0, a1, a2] (r) σ = ev 40 1 [aQ l0, a1, a2] (aQ l0 :: r) σ := ev_go f_Ord_priceBy_0 rfl
theorem f_Ord_priceBy_1 : fetch 40 1 = some (.getfield 9) := by decide +kernel
theorem e_Ord_priceBy_1 (a0 a1 a2 : AV) (σ : aM) (i : Int) (r : List AV)  : ev 40 1 [a0, a1, a2] (aR 8 i :: r) σ = ev 40 4 [a0, a1, a2] (aI (gI σ 8 i 1) :: r) σ := ev_go f_Ord_priceBy_1 rfl
theorem f_Ord_priceBy_4 : fetch 40 4 = some (.iconst 3) := by decide +kernel
theorem e_Ord_priceBy_4 (a0 a1 a2 : AV) (σ : aM) (r : List AV)  : ev 40 4 [a0, a1, a2] (r) σ = ev 40 5 [a0, a1, a2] (aI 3 :: r) σ := ev_go f_Ord_priceBy_4 rfl
theorem f_Ord_priceBy_5 : fetch 40 5 = some (.if_icmp .eq 8) := by decide +kernel
theorem e_Ord_priceBy_5 (a0 a1 a2 : AV) (σ : aM) (x z : Int) (r : List AV) : ev 40 5 [a0, a1, a2] (aI z :: aI x :: r) σ = if x = z then ev 40 13 [a0, a1, a2] r σ else ev 40 8 [a0, a1, a2] r σ := ev_br f_Ord_priceBy_5 rfl bc_eq
theorem f_Ord_priceBy_8 : fetch 40 8 = some (.aload_n 0) := by decide +kernel
theorem e_Ord_priceBy_8 (a1 a2 : AV) (σ : aM) (l0 : Option (Nat × Int)) (r : List AV)  : ev 40 8 [aQ l0, a1, a2] (r) σ = ev 40 9 [aQ l0, a1, a2] (aQ l0 :: r) σ := ev_go f_Ord_priceBy_8 rfl
theorem f_Ord_priceBy_9 : fetch 40 9 = some (.getfield 30) := by decide +kernel
theorem e_Ord_priceBy_9 (a0 a1 a2 : AV) (σ : aM) (i : Int) (r : List AV)  : ev 40 9 [a0, a1, a2] (aR 8 i :: r) σ = ev 40 12 [a0, a1, a2] (aI (gI σ 8 i 7) :: r) σ := ev_go f_Ord_priceBy_9 rfl
theorem f_Ord_priceBy_12 : fetch 40 12 = some (.ireturn) := by decide +kernel
theorem e_Ord_priceBy_12 (a0 a1 a2 : AV) (σ : aM) (x : Int) : ev 40 12 [a0, a1, a2] [aI x] σ = some ((some (aI x)), σ) := ev_ret f_Ord_priceBy_12 rfl
theorem f_Ord_priceBy_13 : fetch 40 13 = some (.aload_n 0) := by decide +kernel
theorem e_Ord_priceBy_13 (a1 a2 : AV) (σ : aM) (l0 : Option (Nat × Int)) (r : List AV)  : ev 40 13 [aQ l0, a1, a2] (r) σ = ev 40 14 [aQ l0, a1, a2] (aQ l0 :: r) σ := ev_go f_Ord_priceBy_13 rfl
theorem f_Ord_priceBy_14 : fetch 40 14 = some (.getfield 24) := by decide +kernel
theorem e_Ord_priceBy_14 (a0 a1 a2 : AV) (σ : aM) (i : Int) (r : List AV)  : ev 40 14 [a0, a1, a2] (aR 8 i :: r) σ = ev 40 17 [a0, a1, a2] (aI (gI σ 8 i 5) :: r) σ := ev_go f_Ord_priceBy_14 rfl
theorem f_Ord_priceBy_17 : fetch 40 17 = some (.iconst 1) := by decide +kernel
theorem e_Ord_priceBy_17 (a0 a1 a2 : AV) (σ : aM) (r : List AV)  : ev 40 17 [a0, a1, a2] (r) σ = ev 40 18 [a0, a1, a2] (aI 1 :: r) σ := ev_go f_Ord_priceBy_17 rfl
theorem f_Ord_priceBy_18 : fetch 40 18 = some (.if_icmp .ne 7) := by decide +kernel
theorem e_Ord_priceBy_18 (a0 a1 a2 : AV) (σ : aM) (x z : Int) (r : List AV) : ev 40 18 [a0, a1, a2] (aI z :: aI x :: r) σ = if ¬ x = z then ev 40 25 [a0, a1, a2] r σ else ev 40 21 [a0, a1, a2] r σ := ev_br f_Ord_priceBy_18 rfl bc_ne
theorem f_Ord_priceBy_21 : fetch 40 21 = some (.iload_n 1) := by decide +kernel
theorem e_Ord_priceBy_21 (a0 a2 : AV) (σ : aM) (l1 : Int) (r : List AV)  : ev 40 21 [a0, aI l1, a2] (r) σ = ev 40 22 [a0, aI l1, a2] (aI l1 :: r) σ := ev_go f_Ord_priceBy_21 rfl
theorem f_Ord_priceBy_22 : fetch 40 22 = some (.ifCond .ne 5) := by decide +kernel
theorem e_Ord_priceBy_22 (a0 a1 a2 : AV) (σ : aM) (x : Int) (r : List AV) : ev 40 22 [a0, a1, a2] (aI x :: r) σ = if ¬ x = 0 then ev 40 27 [a0, a1, a2] r σ else ev 40 25 [a0, a1, a2] r σ := ev_br f_Ord_priceBy_22 rfl bc_ne
theorem f_Ord_priceBy_25 : fetch 40 25 = some (.iconst 0) := by decide +kernel
theorem e_Ord_priceBy_25 (a0 a1 a2 : AV) (σ : aM) (r : List AV)  : ev 40 25 [a0, a1, a2] (r) σ = ev 40 26 [a0, a1, a2] (aI 0 :: r) σ := ev_go f_Ord_priceBy_25 rfl
theorem f_Ord_priceBy_26 : fetch 40 26 = some (.ireturn) := by decide +kernel
theorem e_Ord_priceBy_26 (a0 a1 a2 : AV) (σ : aM) (x : Int) : ev 40 26 [a0, a1, a2] [aI x] σ = some ((some (aI x)), σ) := ev_ret f_Ord_priceBy_26 rfl
theorem f_Ord_priceBy_27 : fetch 40 27 = some (.aload_n 0) := by decide +kernel
theorem e_Ord_priceBy_27 (a1 a2 : AV) (σ : aM) (l0 : Option (Nat × Int)) (r : List AV)  : ev 40 27 [aQ l0, a1, a2] (r) σ = ev 40 28 [aQ l0, a1, a2] (aQ l0 :: r) σ := ev_go f_Ord_priceBy_27 rfl
theorem f_Ord_priceBy_28 : fetch 40 28 = some (.getfield 18) := by decide +kernel
theorem e_Ord_priceBy_28 (a0 a1 a2 : AV) (σ : aM) (i : Int) (r : List AV)  : ev 40 28 [a0, a1, a2] (aR 8 i :: r) σ = ev 40 31 [a0, a1, a2] (aI (gI σ 8 i 3) :: r) σ := ev_go f_Ord_priceBy_28 rfl
theorem f_Ord_priceBy_31 : fetch 40 31 = some (.ifCond .ne 12) := by decide +kernel
theorem e_Ord_priceBy_31 (a0 a1 a2 : AV) (σ : aM) (x : Int) (r : List AV) : ev 40 31 [a0, a1, a2] (aI x :: r) σ = if ¬ x = 0 then ev 40 43 [a0, a1, a2] r σ else ev 40 34 [a0, a1, a2] r σ := ev_br f_Ord_priceBy_31 rfl bc_ne
theorem f_Ord_priceBy_34 : fetch 40 34 = some (.iload_n 1) := by decide +kernel
theorem e_Ord_priceBy_34 (a0 a2 : AV) (σ : aM) (l1 : Int) (r : List AV)  : ev 40 34 [a0, aI l1, a2] (r) σ = ev 40 35 [a0, aI l1, a2] (aI l1 :: r) σ := ev_go f_Ord_priceBy_34 rfl
theorem f_Ord_priceBy_35 : fetch 40 35 = some (.aload_n 0) := by decide +kernel
theorem e_Ord_priceBy_35 (a1 a2 : AV) (σ : aM) (l0 : Option (Nat × Int)) (r : List AV)  : ev 40 35 [aQ l0, a1, a2] (r) σ = ev 40 36 [aQ l0, a1, a2] (aQ l0 :: r) σ := ev_go f_Ord_priceBy_35 rfl
theorem f_Ord_priceBy_36 : fetch 40 36 = some (.getfield 33) := by decide +kernel
theorem e_Ord_priceBy_36 (a0 a1 a2 : AV) (σ : aM) (i : Int) (r : List AV)  : ev 40 36 [a0, a1, a2] (aR 8 i :: r) σ = ev 40 39 [a0, a1, a2] (aI (gI σ 8 i 8) :: r) σ := ev_go f_Ord_priceBy_36 rfl
theorem f_Ord_priceBy_39 : fetch 40 39 = some (.isub) := by decide +kernel
theorem e_Ord_priceBy_39 (a0 a1 a2 : AV) (σ : aM) (x z : Int) (r : List AV)  : ev 40 39 [a0, a1, a2] (aI z :: aI x :: r) σ = ev 40 40 [a0, a1, a2] (aI (wr (x - z)) :: r) σ := ev_go f_Ord_priceBy_39 rfl
theorem f_Ord_priceBy_40 : fetch 40 40 = some (.goto 9) := by decide +kernel
theorem e_Ord_priceBy_40 (a0 a1 a2 : AV) (σ : aM) (r : List AV)  : ev 40 40 [a0, a1, a2] (r) σ = ev 40 49 [a0, a1, a2] (r) σ := ev_go f_Ord_priceBy_40 rfl
theorem f_Ord_priceBy_43 : fetch 40 43 = some (.iload_n 1) := by decide +kernel
theorem e_Ord_priceBy_43 (a0 a2 : AV) (σ : aM) (l1 : Int) (r : List AV)  : ev 40 43 [a0, aI l1, a2] (r) σ = ev 40 44 [a0, aI l1, a2] (aI l1 :: r) σ := ev_go f_Ord_priceBy_43 rfl
theorem f_Ord_priceBy_44 : fetch 40 44 = some (.aload_n 0) := by decide +kernel
theorem e_Ord_priceBy_44 (a1 a2 : AV) (σ : aM) (l0 : Option (Nat × Int)) (r : List AV)  : ev 40 44 [aQ l0, a1, a2] (r) σ = ev 40 45 [aQ l0, a1, a2] (aQ l0 :: r) σ := ev_go f_Ord_priceBy_44 rfl
theorem f_Ord_priceBy_45 : fetch 40 45 = some (.getfield 33) := by decide +kernel
theorem e_Ord_priceBy_45 (a0 a1 a2 : AV) (σ : aM) (i : Int) (r : List AV)  : ev 40 45 [a0, a1, a2] (aR 8 i :: r) σ = ev 40 48 [a0, a1, a2] (aI (gI σ 8 i 8) :: r) σ := ev_go f_Ord_priceBy_45 rfl
theorem f_Ord_priceBy_48 : fetch 40 48 = some (.iadd) := by decide +kernel
theorem e_Ord_priceBy_48 (a0 a1 a2 : AV) (σ : aM) (x z : Int) (r : List AV)  : ev 40 48 [a0, a1, a2] (aI z :: aI x :: r) σ = ev 40 49 [a0, a1, a2] (aI (wr (x + z)) :: r) σ := ev_go f_Ord_priceBy_48 rfl
theorem f_Ord_priceBy_49 : fetch 40 49 = some (.istore_n 2) := by decide +kernel
theorem e_Ord_priceBy_49 (a0 a2 : AV) (σ : aM) (x : Int) (l1 : Int) (r : List AV)  : ev 40 49 [a0, aI l1, a2] (aI x :: r) σ = ev 40 50 [a0, aI l1, aI x] (r) σ := ev_go f_Ord_priceBy_49 rfl
theorem f_Ord_priceBy_50 : fetch 40 50 = some (.iload_n 2) := by decide +kernel
theorem e_Ord_priceBy_50 (a0 a1 : AV) (σ : aM) (l2 : Int) (r : List AV)  : ev 40 50 [a0, a1, aI l2] (r) σ = ev 40 51 [a0, a1, aI l2] (aI l2 :: r) σ := ev_go f_Ord_priceBy_50 rfl
theorem f_Ord_priceBy_51 : fetch 40 51 = some (.invokestatic 45) := by decide +kernel
theorem e_Ord_priceBy_51 (a0 a1 a2 : AV) (σ : aM) (s0 : Int) : ev 40 51 [a0, a1, a2] [aI s0] σ = evK 40 54 [a0, a1, a2] [] (ev 120 0 [aI s0] [] σ) := ev_call f_Ord_priceBy_51 rfl rfl
theorem f_Ord_priceBy_54 : fetch 40 54 = some (.ifCond .eq 7) := by decide +kernel
theorem e_Ord_priceBy_54 (a0 a1 a2 : AV) (σ : aM) (x : Int) (r : List AV) : ev 40 54 [a0, a1, a2] (aI x :: r) σ = if x = 0 then ev 40 61 [a0, a1, a2] r σ else ev 40 57 [a0, a1, a2] r σ := ev_br f_Ord_priceBy_54 rfl bc_eq
theorem f_Ord_priceBy_57 : fetch 40 57 = some (.iload_n 2) := by decide +kernel
theorem e_Ord_priceBy_57 (a0 a1 : AV) (σ : aM) (l2 : Int) (r : List AV)  : ev 40 57 [a0, a1, aI l2] (r) σ = ev 40 58 [a0, a1, aI l2] (aI l2 :: r) σ := ev_go f_Ord_priceBy_57 rfl
theorem f_Ord_priceBy_58 : fetch 40 58 = some (.goto 4) := by decide +kernel
theorem e_Ord_priceBy_58 (a0 a1 a2 : AV) (σ : aM) (r : List AV)  : ev 40 58 [a0, a1, a2] (r) σ = ev 40 62 [a0, a1, a2] (r) σ := ev_go f_Ord_priceBy_58 rfl
theorem f_Ord_priceBy_61 : fetch 40 61 = some (.iconst 0) := by decide +kernel
theorem e_Ord_priceBy_61 (a0 a1 a2 : AV) (σ : aM) (r : List AV)  : ev 40 61 [a0, a1, a2] (r) σ = ev 40 62 [a0, a1, a2] (aI 0 :: r) σ := ev_go f_Ord_priceBy_61 rfl
theorem f_Ord_priceBy_62 : fetch 40 62 = some (.ireturn) := by decide +kernel
theorem e_Ord_priceBy_62 (a0 a1 a2 : AV) (σ : aM) (x : Int) : ev 40 62 [a0, a1, a2] [aI x] σ = some ((some (aI x)), σ) := ev_ret f_Ord_priceBy_62 rfl
theorem f_Ord_isAheadOf_0 : fetch 41 0 = some (.iload_n 2) := by decide +kernel
theorem e_Ord_isAheadOf_0 (a0 a1 a3 : AV) (σ : aM) (l2 : Int) (r : List AV)  : ev 41 0 [a0, a1, aI l2, a3] (r) σ = ev 41 1 [a0, a1, aI l2, a3] (aI l2 :: r) σ := ev_go f_Ord_isAheadOf_0 rfl
theorem f_Ord_isAheadOf_1 : fetch 41 1 = some (.iload_n 3) := by decide +kernel
theorem e_Ord_isAheadOf_1 (a0 a1 a2 : AV) (σ : aM) (l3 : Int) (r : List AV)  : ev 41 1 [a0, a1, a2, aI l3] (r) σ = ev 41 2 [a0, a1, a2, aI l3] (aI l3 :: r) σ := ev_go f_Ord_isAheadOf_1 rfl
theorem f_Ord_isAheadOf_2 : fetch 41 2 = some (.if_icmp .eq 34) := by decide +kernel
theorem e_Ord_isAheadOf_2 (a0 a1 a2 a3 : AV) (σ : aM) (x z : Int) (r : List AV) : ev 41 2 [a0, a1, a2, a3] (aI z :: aI x :: r) σ = if x = z then ev 41 36 [a0, a1, a2, a3] r σ else ev 41 5 [a0, a1, a2, a3] r σ := ev_br f_Ord_isAheadOf_2 rfl bc_eq
theorem f_Ord_isAheadOf_5 : fetch 41 5 = some (.aload_n 0) := by decide +kernel
theorem e_Ord_isAheadOf_5 (a1 a2 a3 : AV) (σ : aM) (l0 : Option (Nat × Int)) (r : List AV)  : ev 41 5 [aQ l0, a1, a2, a3] (r) σ = ev 41 6 [aQ l0, a1, a2, a3] (aQ l0 :: r) σ := ev_go f_Ord_isAheadOf_5 rfl
theorem f_Ord_isAheadOf_6 : fetch 41 6 = some (.getfield 18) := by decide +kernel
theorem e_Ord_isAheadOf_6 (a0 a1 a2 a3 : AV) (σ : aM) (i : Int) (r : List AV)  : ev 41 6 [a0, a1, a2, a3] (aR 8 i :: r) σ = ev 41 9 [a0, a1, a2, a3] (aI (gI σ 8 i 3) :: r) σ := ev_go f_Ord_isAheadOf_6 rfl
theorem f_Ord_isAheadOf_9 : fetch 41 9 = some (.ifCond .ne 16) := by decide +kernel
theorem e_Ord_isAheadOf_9 (a0 a1 a2 a3 : AV) (σ : aM) (x : Int) (r : List AV) : ev 41 9 [a0, a1, a2, a3] (aI x :: r) σ = if ¬ x = 0 then ev 41 25 [a0, a1, a2, a3] r σ else ev 41 12 [a0, a1, a2, a3] r σ := ev_br f_Ord_isAheadOf_9 rfl bc_ne
theorem f_Ord_isAheadOf_12 : fetch 41 12 = some (.iload_n 2) := by decide +kernel
theorem e_Ord_isAheadOf_12 (a0 a1 a3 : AV) (σ : aM) (l2 : Int) (r : List AV)  : ev 41 12 [a0, a1, aI l2, a3] (r) σ = ev 41 13 [a0, a1, aI l2, a3] (aI l2 :: r) σ := ev_go f_Ord_isAheadOf_12 rfl
theorem f_Ord_isAheadOf_13 : fetch 41 13 = some (.iload_n 3) := by decide +kernel
theorem e_Ord_isAheadOf_13 (a0 a1 a2 : AV) (σ : aM) (l3 : Int) (r : List AV)  : ev 41 13 [a0, a1, a2, aI l3] (r) σ = ev 41 14 [a0, a1, a2, aI l3] (aI l3 :: r) σ := ev_go f_Ord_isAheadOf_13 rfl
theorem f_Ord_isAheadOf_14 : fetch 41 14 = some (.if_icmp .le 7) := by decide +kernel
theorem e_Ord_isAheadOf_14 (a0 a1 a2 a3 : AV) (σ : aM) (x z : Int) (r : List AV) : ev 41 14 [a0, a1, a2, a3] (aI z :: aI x :: r) σ = if x ≤ z then ev 41 21 [a0, a1, a2, a3] r σ else ev 41 17 [a0, a1, a2, a3] r σ := ev_br f_Ord_isAheadOf_14 rfl bc_le
theorem f_Ord_isAheadOf_17 : fetch 41 17 = some (.iconst 1) := by decide +kernel
theorem e_Ord_isAheadOf_17 (a0 a1 a2 a3 : AV) (σ : aM) (r : List AV)  : ev 41 17 [a0, a1, a2, a3] (r) σ = ev 41 18 [a0, a1, a2, a3] (aI 1 :: r) σ := ev_go f_Ord_isAheadOf_17 rfl
theorem f_Ord_isAheadOf_18 : fetch 41 18 = some (.goto 17) := by decide +kernel
theorem e_Ord_isAheadOf_18 (a0 a1 a2 a3 : AV) (σ : aM) (r : List AV)  : ev 41 18 [a0, a1, a2, a3] (r) σ = ev 41 35 [a0, a1, a2, a3] (r) σ := ev_go f_Ord_isAheadOf_18 rfl
theorem f_Ord_isAheadOf_21 : fetch 41 21 = some (.iconst 0) := by decide +kernel
theorem e_Ord_isAheadOf_21 (a0 a1 a2 a3 : AV) (σ : aM) (r : List AV)  : ev 41 21 [a0, a1, a2, a3] (r) σ = ev 41 22 [a0, a1, a2, a3] (aI 0 :: r) σ := ev_go f_Ord_isAheadOf_21 rfl
theorem f_Ord_isAheadOf_22 : fetch 41 22 = some (.goto 13) := by decide +kernel
theorem e_Ord_isAheadOf_22 (a0 a1 a2 a3 : AV) (σ : aM) (r : List AV)  : ev 41 22 [a0, a1, a2, a3] (r) σ = ev 41 35 [a0, a1, a2, a3] (r) σ := ev_go f_Ord_isAheadOf_22 rfl
theorem f_Ord_isAheadOf_25 : fetch 41 25 = some (.iload_n 2) := by decide +kernel
theorem e_Ord_isAheadOf_25 (a0 a1 a3 : AV) (σ : aM) (l2 : Int) (r : List AV)  : ev 41 25 [a0, a1, aI l2, a3] (r) σ = ev 41 26 [a0, a1, aI l2, a3] (aI l2 :: r) σ := ev_go f_Ord_isAheadOf_25 rfl
theorem f_Ord_isAheadOf_26 : fetch 41 26 = some (.iload_n 3) := by decide +kernel
theorem e_Ord_isAheadOf_26 (a0 a1 a2 : AV) (σ : aM) (l3 : Int) (r : List AV)  : ev 41 26 [a0, a1, a2, aI l3] (r) σ = ev 41 27 [a0, a1, a2, aI l3] (aI l3 :: r) σ := ev_go f_Ord_isAheadOf_26 rfl
theorem f_Ord_isAheadOf_27 : fetch 41 27 = some (.if_icmp .ge 7) := by decide +kernel
theorem e_Ord_isAheadOf_27 (a0 a1 a2 a3 : AV) (σ : aM) (x z : Int) (r : List AV) : ev 41 27 [a0, a1, a2, a3] (aI z :: aI x :: r) σ = if z ≤ x then ev 41 34 [a0, a1, a2, a3] r σ else ev 41 30 [a0, a1, a2, a3] r σ := ev_br f_Ord_isAheadOf_27 rfl bc_ge
theorem f_Ord_isAheadOf_30 : fetch 41 30 = some (.iconst 1) := by decide +kernel
theorem e_Ord_isAheadOf_30 (a0 a1 a2 a3 : AV) (σ : aM) (r : List AV)  : ev 41 30 [a0, a1, a2, a3] (r) σ = ev 41 31 [a0, a1, a2, a3] (aI 1 :: r) σ := ev_go f_Ord_isAheadOf_30 rfl
theorem f_Ord_isAheadOf_31 : fetch 41 31 = some (.goto 4) := by decide +kernel
theorem e_Ord_isAheadOf_31 (a0 a1 a2 a3 : AV) (σ : aM) (r : List AV)  : ev 41 31 [a0, a1, a2, a3] (r) σ = ev 41 35 [a0, a1, a2, a3] (r) σ := ev_go f_Ord_isAheadOf_31 rfl
theorem f_Ord_isAheadOf_34 : fetch 41 34 = some (.iconst 0) := by decide +kernel
theorem e_Ord_isAheadOf_34 (a0 a1 a2 a3 : AV) (σ : aM) (r : List AV)  : ev 41 34 [a0, a1, a2, a3] (r) σ = ev 41 35 [a0, a1, a2, a3] (aI 0 :: r) σ := ev_go f_Ord_isAheadOf_34 rfl
theorem f_Ord_isAheadOf_35 : fetch 41 35 = some (.ireturn) := by decide +kernel
theorem e_Ord_isAheadOf_35 (a0 a1 a2 a3 : AV) (σ : aM) (x : Int) (h : x = 0 ∨ x = 1) : ev 41 35 [a0, a1, a2, a3] [aI x] σ = some ((some (aI x)), σ) := ev_rB f_Ord_isAheadOf_35 rfl h
theorem f_Ord_isAheadOf_36 : fetch 41 36 = some (.aload_n 0) := by decide +kernel
theorem e_Ord_isAheadOf_36 (a1 a2 a3 : AV) (σ : aM) (l0 : Option (Nat × Int)) (r : List AV)  : ev 41 36 [aQ l0, a1, a2, a3] (r) σ = ev 41 37 [aQ l0, a1, a2, a3] (aQ l0 :: r) σ := ev_go f_Ord_isAheadOf_36 rfl
theorem f_Ord_isAheadOf_37 : fetch 41 37 = some (.getfield 9) := by decide +kernel
theorem e_Ord_isAheadOf_37 (a0 a1 a2 a3 : AV) (σ : aM) (i : Int) (r : List AV)  : ev 41 37 [a0, a1, a2, a3] (aR 8 i :: r) σ = ev 41 40 [a0, a1, a2, a3] (aI (gI σ 8 i 1) :: r) σ := ev_go f_Ord_isAheadOf_37 rfl
theorem f_Ord_isAheadOf_40 : fetch 41 40 = some (.iconst 3) := by decide +kernel
theorem e_Ord_isAheadOf_40 (a0 a1 a2 a3 : AV) (σ : aM) (r : List AV)  : ev 41 40 [a0, a1, a2, a3] (r) σ = ev 41 41 [a0, a1, a2, a3] (aI 3 :: r) σ := ev_go f_Ord_isAheadOf_40 rfl
theorem f_Ord_isAheadOf_41 : fetch 41 41 = some (.if_icmp .ne 7) := by decide +kernel
theorem e_Ord_isAheadOf_41 (a0 a1 a2 a3 : AV) (σ : aM) (x z : Int) (r : List AV) : ev 41 41 [a0, a1, a2, a3] (aI z :: aI x :: r) σ = if ¬ x = z then ev 41 48 [a0, a1, a2, a3] r σ else ev 41 44 [a0, a1, a2, a3] r σ := ev_br f_Ord_isAheadOf_41 rfl bc_ne
theorem f_Ord_isAheadOf_44 : fetch 41 44 = some (.iconst 1) := by decide +kernel
theorem e_Ord_isAheadOf_44 (a0 a1 a2 a3 : AV) (σ : aM) (r : List AV)  : ev 41 44 [a0, a1, a2, a3] (r) σ = ev 41 45 [a0, a1, a2, a3] (aI 1 :: r) σ := ev_go f_Ord_isAheadOf_44 rfl
theorem f_Ord_isAheadOf_45 : fetch 41 45 = some (.goto 4) := by decide +kernel
theorem e_Ord_isAheadOf_45 (a0 a1 a2 a3 : AV) (σ : aM) (r : List AV)  : ev 41 45 [a0, a1, a2, a3] (r) σ = ev 41 49 [a0, a1, a2, a3] (r) σ := ev_go f_Ord_isAheadOf_45 rfl
theorem f_Ord_isAheadOf_48 : fetch 41 48 = some (.iconst 0) := by decide +kernel
theorem e_Ord_isAheadOf_48 (a0 a1 a2 a3 : AV) (σ : aM) (r : List AV)  : ev 41 48 [a0, a1, a2, a3] (r) σ = ev 41 49 [a0, a1, a2, a3] (aI 0 :: r) σ := ev_go f_Ord_isAheadOf_48 rfl
theorem f_Ord_isAheadOf_49 : fetch 41 49 = some (.aload_n 1) := by decide +kernel
theorem e_Ord_isAheadOf_49 (a0 a2 a3 : AV) (σ : aM) (l1 : Option (Nat × Int)) (r : List AV)  : ev 41 49 [a0, aQ l1, a2, a3] (r) σ = ev 41 50 [a0, aQ l1, a2, a3] (aQ l1 :: r) σ := ev_go f_Ord_isAheadOf_49 rfl
theorem f_Ord_isAheadOf_50 : fetch 41 50 = some (.getfield 9) := by decide +kernel
theorem e_Ord_isAheadOf_50 (a0 a1 a2 a3 : AV) (σ : aM) (i : Int) (r : List AV)  : ev 41 50 [a0, a1, a2, a3] (aR 8 i :: r) σ = ev 41 53 [a0, a1, a2, a3] (aI (gI σ 8 i 1) :: r) σ := ev_go f_Ord_isAheadOf_50 rfl
theorem f_Ord_isAheadOf_53 : fetch 41 53 = some (.iconst 3) := by decide +kernel
theorem e_Ord_isAheadOf_53 (a0 a1 a2 a3 : AV) (σ : aM) (r : List AV)  : ev 41 53 [a0, a1, a2, a3] (r) σ = ev 41 54 [a0, a1, a2, a3] (aI 3 :: r) σ := ev_go f_Ord_isAheadOf_53 rfl
theorem f_Ord_isAheadOf_54 : fetch 41 54 = some (.if_icmp .ne 7) := by decide +kernel
theorem e_Ord_isAheadOf_54 (a0 a1 a2 a3 : AV) (σ : aM) (x z : Int) (r : List AV) : ev 41 54 [a0, a1, a2, a3] (aI z :: aI x :: r) σ = if ¬ x = z then ev 41 61 [a0, a1, a2, a3] r σ else ev 41 57 [a0, a1, a2, a3] r σ := ev_br f_Ord_isAheadOf_54 rfl bc_ne
theorem f_Ord_isAheadOf_57 : fetch 41 57 = some (.iconst 1) := by decide +kernel
theorem e_Ord_isAheadOf_57 (a0 a1 a2 a3 : AV) (σ : aM) (r : List AV)  : ev 41 57 [a0, a1, a2, a3] (r) σ = ev 41 58 [a0, a1, a2, a3] (aI 1 :: r) σ := ev_go f_Ord_isAheadOf_57 rfl
theorem f_Ord_isAheadOf_58 : fetch 41 58 = some (.goto 4) := by decide +kernel
theorem e_Ord_isAheadOf_58 (a0 a1 a2 a3 : AV) (σ : aM) (r : List AV)  : ev 41 58 [a0, a1, a2, a3] (r) σ = ev 41 62 [a0, a1, a2, a3] (r) σ := ev_go f_Ord_isAheadOf_58 rfl
theorem f_Ord_isAheadOf_61 : fetch 41 61 = some (.iconst 0) := by decide +kernel
theorem e_Ord_isAheadOf_61 (a0 a1 a2 a3 : AV) (σ : aM) (r : List AV)  : ev 41 61 [a0, a1, a2, a3] (r) σ = ev 41 62 [a0, a1, a2, a3] (aI 0 :: r) σ := ev_go f_Ord_isAheadOf_61 rfl
theorem f_Ord_isAheadOf_62 : fetch 41 62 = some (.if_icmp .eq 17) := by decide +kernel
theorem e_Ord_isAheadOf_62 (a0 a1 a2 a3 : AV) (σ : aM) (x z : Int) (r : List AV) : ev 41 62 [a0, a1, a2, a3] (aI z :: aI x :: r) σ = if x = z then ev 41 79 [a0, a1, a2, a3] r σ else ev 41 65 [a0, a1, a2, a3] r σ := ev_br f_Ord_isAheadOf_62 rfl bc_eq
theorem f_Ord_isAheadOf_65 : fetch 41 65 = some (.aload_n 1) := by decide +kernel
theorem e_Ord_isAheadOf_65 (a0 a2 a3 : AV) (σ : aM) (l1 : Option (Nat × Int)) (r : List AV)  : ev 41 65 [a0, aQ l1, a2, a3] (r) σ = ev 41 66 [a0, aQ l1, a2, a3] (aQ l1 :: r) σ := ev_go f_Ord_isAheadOf_65 rfl
theorem f_Ord_isAheadOf_66 : fetch 41 66 = some (.getfield 9) := by decide +kernel
theorem e_Ord_isAheadOf_66 (a0 a1 a2 a3 : AV) (σ : aM) (i : Int) (r : List AV)  : ev 41 66 [a0, a1, a2, a3] (aR 8 i :: r) σ = ev 41 69 [a0, a1, a2, a3] (aI (gI σ 8 i 1) :: r) σ := ev_go f_Ord_isAheadOf_66 rfl
theorem f_Ord_isAheadOf_69 : fetch 41 69 = some (.iconst 3) := by decide +kernel
theorem e_Ord_isAheadOf_69 (a0 a1 a2 a3 : AV) (σ : aM) (r : List AV)  : ev 41 69 [a0, a1, a2, a3] (r) σ = ev 41 70 [a0, a1, a2, a3] (aI 3 :: r) σ := ev_go f_Ord_isAheadOf_69 rfl
theorem f_Ord_isAheadOf_70 : fetch 41 70 = some (.if_icmp .ne 7) := by decide +kernel
theorem e_Ord_isAheadOf_70 (a0 a1 a2 a3 : AV) (σ : aM) (x z : Int) (r : List AV) : ev 41 70 [a0, a1, a2, a3] (aI z :: aI x :: r) σ = if ¬ x = z then ev 41 77 [a0, a1, a2, a3] r σ else ev 41 73 [a0, a1, a2, a3] r σ := ev_br f_Ord_isAheadOf_70 rfl bc_ne
theorem f_Ord_isAheadOf_73 : fetch 41 73 = some (.iconst 1) := by decide +kernel
theorem e_Ord_isAheadOf_73 (a0 a1 a2 a3 : AV) (σ : aM) (r : List AV)  : ev 41 73 [a0, a1, a2, a3] (r) σ = ev 41 74 [a0, a1, a2, a3] (aI 1 :: r) σ := ev_go f_Ord_isAheadOf_73 rfl
theorem f_Ord_isAheadOf_74 : fetch 41 74 = some (.goto 4) := by decide +kernel
theorem e_Ord_isAheadOf_74 (a0 a1 a2 a3 : AV) (σ : aM) (r : List AV)  : ev 41 74 [a0, a1, a2, a3] (r) σ = ev 41 78 [a0, a1, a2, a3] (r) σ := ev_go f_Ord_isAheadOf_74 rfl
theorem f_Ord_isAheadOf_77 : fetch 41 77 = some (.iconst 0) := by decide +kernel
theorem e_Ord_isAheadOf_77 (a0 a1 a2 a3 : AV) (σ : aM) (r : List AV)  : ev 41 77 [a0, a1, a2, a3] (r) σ = ev 41 78 [a0, a1, a2, a3] (aI 0 :: r) σ := ev_go f_Ord_isAheadOf_77 rfl
theorem f_Ord_isAheadOf_78 : fetch 41 78 = some (.ireturn) := by decide +kernel
theorem e_Ord_isAheadOf_78 (a0 a1 a2 a3 : AV) (σ : aM) (x : Int) (h : x = 0 ∨ x = 1) : ev 41 78 [a0, a1, a2, a3] [aI x] σ = some ((some (aI x)), σ) := ev_rB f_Ord_isAheadOf_78 rfl h
theorem f_Ord_isAheadOf_79 : fetch 41 79 = some (.aload_n 0) := by decide +kernel
theorem e_Ord_isAheadOf_79 (a1 a2 a3 : AV) (σ : aM) (l0 : Option (Nat × Int)) (r : List AV)  : ev 41 79 [aQ l0, a1, a2, a3] (r) σ = ev 41 80 [aQ l0, a1, a2, a3] (aQ l0 :: r) σ := ev_go f_Ord_isAheadOf_79 rfl
theorem f_Ord_isAheadOf_80 : fetch 41 80 = some (.getfield 39) := by decide +kernel
theorem e_Ord_isAheadOf_80 (a0 a1 a2 a3 : AV) (σ : aM) (i : Int) (r : List AV)  : ev 41 80 [a0, a1, a2, a3] (aR 8 i :: r) σ = ev 41 83 [a0, a1, a2, a3] (aI (gI σ 8 i 10) :: r) σ := ev_go f_Ord_isAheadOf_80 rfl
theorem f_Ord_isAheadOf_83 : fetch 41 83 = some (.aload_n 1) := by decide +kernel
theorem e_Ord_isAheadOf_83 (a0 a2 a3 : AV) (σ : aM) (l1 : Option (Nat × Int)) (r : List AV)  : ev 41 83 [a0, aQ l1, a2, a3] (r) σ = ev 41 84 [a0, aQ l1, a2, a3] (aQ l1 :: r) σ := ev_go f_Ord_isAheadOf_83 rfl
theorem f_Ord_isAheadOf_84 : fetch 41 84 = some (.getfield 39) := by decide +kernel
theorem e_Ord_isAheadOf_84 (a0 a1 a2 a3 : AV) (σ : aM) (i : Int) (r : List AV)  : ev 41 84 [a0, a1, a2, a3] (aR 8 i :: r) σ = ev 41 87 [a0, a1, a2, a3] (aI (gI σ 8 i 10) :: r) σ := ev_go f_Ord_isAheadOf_84 rfl
theorem f_Ord_isAheadOf_87 : fetch 41 87 = some (.if_icmp .ge 7) := by decide +kernel
theorem e_Ord_isAheadOf_87 (a0 a1 a2 a3 : AV) (σ : aM) (x z : Int) (r : List AV) : ev 41 87 [a0, a1, a2, a3] (aI z :: aI x :: r) σ = if z ≤ x then ev 41 94 [a0, a1, a2, a3] r σ else ev 41 90 [a0, a1, a2, a3] r σ := ev_br f_Ord_isAheadOf_87 rfl bc_ge
theorem f_Ord_isAheadOf_90 : fetch 41 90 = some (.iconst 1) := by decide +kernel
theorem e_Ord_isAheadOf_90 (a0 a1 a2 a3 : AV) (σ : aM) (r : List AV)  : ev 41 90 [a0, a1, a2, a3] (r) σ = ev 41 91 [a0, a1, a2, a3] (aI 1 :: r) σ := ev_go f_Ord_isAheadOf_90 rfl
theorem f_Ord_isAheadOf_91 : fetch 41 91 = some (.goto 4) := by decide +kernel
theorem e_Ord_isAheadOf_91 (a0 a1 a2 a3 : AV) (σ : aM) (r : List AV)  : ev 41 91 [a0, a1, a2, a3] (r) σ = ev 41 95 [a0, a1, a2, a3] (r) σ := ev_go f_Ord_isAheadOf_91 rfl
theorem f_Ord_isAheadOf_94 : fetch 41 94 = some (.iconst 0) := by decide +kernel
theorem e_Ord_isAheadOf_94 (a0 a1 a2 a3 : AV) (σ : aM) (r : List AV)  : ev 41 94 [a0, a1, a2, a3] (r) σ = ev 41 95 [a0, a1, a2, a3] (aI 0 :: r) σ := ev_go f_Ord_isAheadOf_94 rfl
theorem f_Ord_isAheadOf_95 : fetch 41 95 = some (.ireturn) := by decide +kernel
theorem e_Ord_isAheadOf_95 (a0 a1 a2 a3 : AV) (σ : aM) (x : Int) (h : x = 0 ∨ x = 1) : ev 41 95 [a0, a1, a2, a3] [aI x] σ = some ((some (aI x)), σ) := ev_rB f_Ord_isAheadOf_95 rfl h
theorem f_Ord_giveTraded_0 : fetch 42 0 = some (.aload_n 0) := by decide +kernel
theorem e_Ord_giveTraded_0 (a1 : AV) (σ : aM) (l0 : Option (Nat × Int)) (r : List AV)  : ev 42 0 [aQ l0, a1] (r) σ = ev 42 1 [aQ l0, a1] (aQ l0 :: r) σ := ev_go f_Ord_giveTraded_0 rfl
theorem f_Ord_giveTraded_1 : fetch 42 1 = some (.dup) := by decide +kernel
theorem e_Ord_giveTraded_1 (a0 a1 : AV) (σ : aM) (x : Option (Nat × Int)) (r : List AV)  : ev 42 1 [a0, a1] (aQ x :: r) σ = ev 42 2 [a0, a1] (aQ x :: aQ x :: r) σ := ev_go f_Ord_giveTraded_1 rfl
theorem f_Ord_giveTraded_2 : fetch 42 2 = some (.getfield 21) := by decide +kernel
theorem e_Ord_giveTraded_2 (a0 a1 : AV) (σ : aM) (i : Int) (r : List AV)  : ev 42 2 [a0, a1] (aR 8 i :: r) σ = ev 42 5 [a0, a1] (aI (gI σ 8 i 4) :: r) σ := ev_go f_Ord_giveTraded_2 rfl
theorem f_Ord_giveTraded_5 : fetch 42 5 = some (.iload_n 1) := by decide +kernel
theorem e_Ord_giveTraded_5 (a0 : AV) (σ : aM) (l1 : Int) (r : List AV)  : ev 42 5 [a0, aI l1] (r) σ = ev 42 6 [a0, aI l1] (aI l1 :: r) σ := ev_go f_Ord_giveTraded_5 rfl
theorem f_Ord_giveTraded_6 : fetch 42 6 = some (.isub) := by decide +kernel
theorem e_Ord_giveTraded_6 (a0 a1 : AV) (σ : aM) (x z : Int) (r : List AV)  : ev 42 6 [a0, a1] (aI z :: aI x :: r) σ = ev 42 7 [a0, a1] (aI (wr (x - z)) :: r) σ := ev_go f_Ord_giveTraded_6 rfl
theorem f_Ord_giveTraded_7 : fetch 42 7 = some (.putfield 21) := by decide +kernel
theorem e_Ord_giveTraded_7 (a0 a1 : AV) (σ : aM) (i : Int) (x : Int) (r : List AV)  : ev 42 7 [a0, a1] (aI x :: aR 8 i :: r) σ = ev 42 10 [a0, a1] (r) (uI σ 8 i 4 x) := ev_go f_Ord_giveTraded_7 rfl
theorem f_Ord_giveTraded_10 : fetch 42 10 = some (.aload_n 0) := by decide +kernel
theorem e_Ord_giveTraded_10 (a1 : AV) (σ : aM) (l0 : Option (Nat × Int)) (r : List AV)  : ev 42 10 [aQ l0, a1] (r) σ = ev 42 11 [aQ l0, a1] (aQ l0 :: r) σ := ev_go f_Ord_giveTraded_10 rfl
theorem f_Ord_giveTraded_11 : fetch 42 11 = some (.dup) := by decide +kernel
theorem e_Ord_giveTraded_11 (a0 a1 : AV) (σ : aM) (x : Option (Nat × Int)) (r : List AV)  : ev 42 11 [a0, a1] (aQ x :: r) σ = ev 42 12 [a0, a1] (aQ x :: aQ x :: r) σ := ev_go f_Ord_giveTraded_11 rfl
theorem f_Ord_giveTraded_12 : fetch 42 12 = some (.getfield 27) := by decide +kernel
theorem e_Ord_giveTraded_12 (a0 a1 : AV) (σ : aM) (i : Int) (r : List AV)  : ev 42 12 [a0, a1] (aR 8 i :: r) σ = ev 42 15 [a0, a1] (aI (gI σ 8 i 6) :: r) σ := ev_go f_Ord_giveTraded_12 rfl
theorem f_Ord_giveTraded_15 : fetch 42 15 = some (.iload_n 1) := by decide +kernel
theorem e_Ord_giveTraded_15 (a0 : AV) (σ : aM) (l1 : Int) (r : List AV)  : ev 42 15 [a0, aI l1] (r) σ = ev 42 16 [a0, aI l1] (aI l1 :: r) σ := ev_go f_Ord_giveTraded_15 rfl
theorem f_Ord_giveTraded_16 : fetch 42 16 = some (.iadd) := by decide +kernel
theorem e_Ord_giveTraded_16 (a0 a1 : AV) (σ : aM) (x z : Int) (r : List AV)  : ev 42 16 [a0, a1] (aI z :: aI x :: r) σ = ev 42 17 [a0, a1] (aI (wr (x + z)) :: r) σ := ev_go f_Ord_giveTraded_16 rfl
theorem f_Ord_giveTraded_17 : fetch 42 17 = some (.putfield 27) := by decide +kernel
theorem e_Ord_giveTraded_17 (a0 a1 : AV) (σ : aM) (i : Int) (x : Int) (r : List AV)  : ev 42 17 [a0, a1] (aI x :: aR 8 i :: r) σ = ev 42 20 [a0, a1] (r) (uI σ 8 i 6 x) := ev_go f_Ord_giveTraded_17 rfl
theorem f_Ord_giveTraded_20 : fetch 42 20 = some (.aload_n 0) := by decide +kernel
theorem e_Ord_giveTraded_20 (a1 : AV) (σ : aM) (l0 : Option (Nat × Int)) (r : List AV)  : ev 42 20 [aQ l0, a1] (r) σ = ev 42 21 [aQ l0, a1] (aQ l0 :: r) σ := ev_go f_Ord_giveTraded_20 rfl
theorem f_Ord_giveTraded_21 : fetch 42 21 = some (.getfield 21) := by decide +kernel
theorem e_Ord_giveTraded_21 (a0 a1 : AV) (σ : aM) (i : Int) (r : List AV)  : ev 42 21 [a0, a1] (aR 8 i :: r) σ = ev 42 24 [a0, a1] (aI (gI σ 8 i 4) :: r) σ := ev_go f_Ord_giveTraded_21 rfl
theorem f_Ord_giveTraded_24 : fetch 42 24 = some (.ifCond .ne 8) := by decide +kernel
theorem e_Ord_giveTraded_24 (a0 a1 : AV) (σ : aM) (x : Int) (r : List AV) : ev 42 24 [a0, a1] (aI x :: r) σ = if ¬ x = 0 then ev 42 32 [a0, a1] r σ else ev 42 27 [a0, a1] r σ := ev_br f_Ord_giveTraded_24 rfl bc_ne
theorem f_Ord_giveTraded_27 : fetch 42 27 = some (.aload_n 0) := by decide +kernel
theorem e_Ord_giveTraded_27 (a1 : AV) (σ : aM) (l0 : Option (Nat × Int)) (r : List AV)  : ev 42 27 [aQ l0, a1] (r) σ = ev 42 28 [aQ l0, a1] (aQ l0 :: r) σ := ev_go f_Ord_giveTraded_27 rfl
theorem f_Ord_giveTraded_28 : fetch 42 28 = some (.iconst 2) := by decide +kernel
theorem e_Ord_giveTraded_28 (a0 a1 : AV) (σ : aM) (r : List AV)  : ev 42 28 [a0, a1] (r) σ = ev 42 29 [a0, a1] (aI 2 :: r) σ := ev_go f_Ord_giveTraded_28 rfl
theorem f_Ord_giveTraded_29 : fetch 42 29 = some (.putfield 24) := by decide +kernel
theorem e_Ord_giveTraded_29 (a0 a1 : AV) (σ : aM) (i : Int) (x : Int) (r : List AV)  : ev 42 29 [a0, a1] (aI x :: aR 8 i :: r) σ = ev 42 32 [a0, a1] (r) (uI σ 8 i 5 x) := ev_go f_Ord_giveTraded_29 rfl
theorem f_Ord_giveTraded_32 : fetch 42 32 = some (.return_) := by decide +kernel
theorem e_Ord_giveTraded_32 (a0 a1 : AV) (σ : aM)  : ev 42 32 [a0, a1] [] σ = some (none, σ) := ev_ret f_Ord_giveTraded_32 rfl
theorem f_Ord_lessenTo_0 : fetch 43 0 = some (.aload_n 0) := by decide +kernel
theorem e_Ord_lessenTo_0 (a1 : AV) (σ : aM) (l0 : Option (Nat × Int)) (r : List AV)  : ev 43 0 [aQ l0, a1] (r) σ = ev 43 1 [aQ l0, a1] (aQ l0 :: r) σ := ev_go f_Ord_lessenTo_0 rfl
theorem f_Ord_lessenTo_1 : fetch 43 1 = some (.iload_n 1) := by decide +kernel
theorem e_Ord_lessenTo_1 (a0 : AV) (σ : aM) (l1 : Int) (r : List AV)  : ev 43 1 [a0, aI l1] (r) σ = ev 43 2 [a0, aI l1] (aI l1 :: r) σ := ev_go f_Ord_lessenTo_1 rfl
theorem f_Ord_lessenTo_2 : fetch 43 2 = some (.putfield 21) := by decide +kernel
theorem e_Ord_lessenTo_2 (a0 a1 : AV) (σ : aM) (i : Int) (x : Int) (r : List AV)  : ev 43 2 [a0, a1] (aI x :: aR 8 i :: r) σ = ev 43 5 [a0, a1] (r) (uI σ 8 i 4 x) := ev_go f_Ord_lessenTo_2 rfl
theorem f_Ord_lessenTo_5 : fetch 43 5 = some (.aload_n 0) := by decide +kernel
theorem e_Ord_lessenTo_5 (a1 : AV) (σ : aM) (l0 : Option (Nat × Int)) (r : List AV)  : ev 43 5 [aQ l0, a1] (r) σ = ev 43 6 [aQ l0, a1] (aQ l0 :: r) σ := ev_go f_Ord_lessenTo_5 rfl
theorem f_Ord_lessenTo_6 : fetch 43 6 = some (.aload_n 0) := by decide +kernel
theorem e_Ord_lessenTo_6 (a1 : AV) (σ : aM) (l0 : Option (Nat × Int)) (r : List AV)  : ev 43 6 [aQ l0, a1] (r) σ = ev 43 7 [aQ l0, a1] (aQ l0 :: r) σ := ev_go f_Ord_lessenTo_6 rfl
theorem f_Ord_lessenTo_7 : fetch 43 7 = some (.getfield 36) := by decide +kernel
theorem e_Ord_lessenTo_7 (a0 a1 : AV) (σ : aM) (i : Int) (r : List AV)  : ev 43 7 [a0, a1] (aR 8 i :: r) σ = ev 43 10 [a0, a1] (aI (gI σ 8 i 9) :: r) σ := ev_go f_Ord_lessenTo_7 rfl
theorem f_Ord_lessenTo_10 : fetch 43 10 = some (.aload_n 0) := by decide +kernel
theorem e_Ord_lessenTo_10 (a1 : AV) (σ : aM) (l0 : Option (Nat × Int)) (r : List AV)  : ev 43 10 [aQ l0, a1] (r) σ = ev 43 11 [aQ l0, a1] (aQ l0 :: r) σ := ev_go f_Ord_lessenTo_10 rfl
theorem f_Ord_lessenTo_11 : fetch 43 11 = some (.getfield 21) := by decide +kernel
theorem e_Ord_lessenTo_11 (a0 a1 : AV) (σ : aM) (i : Int) (r : List AV)  : ev 43 11 [a0, a1] (aR 8 i :: r) σ = ev 43 14 [a0, a1] (aI (gI σ 8 i 4) :: r) σ := ev_go f_Ord_lessenTo_11 rfl
theorem f_Ord_lessenTo_14 : fetch 43 14 = some (.invokestatic 49) := by decide +kernel
theorem e_Ord_lessenTo_14 (a0 a1 : AV) (σ : aM) (s0 : Option (Nat × Int)) (s1 : Int) (s2 : Int) : ev 43 14 [a0, a1] [aI s2, aI s1, aQ s0] σ = ev 43 17 [a0, a1] (aI (if s2 < s1 then s2 else s1) :: [aQ s0]) σ := ev_go f_Ord_lessenTo_14 rfl
theorem f_Ord_lessenTo_17 : fetch 43 17 = some (.putfield 36) := by decide +kernel
theorem e_Ord_lessenTo_17 (a0 a1 : AV) (σ : aM) (i : Int) (x : Int) (r : List AV)  : ev 43 17 [a0, a1] (aI x :: aR 8 i :: r) σ = ev 43 20 [a0, a1] (r) (uI σ 8 i 9 x) := ev_go f_Ord_lessenTo_17 rfl
theorem f_Ord_lessenTo_20 : fetch 43 20 = some (.return_) := by decide +kernel
theorem e_Ord_lessenTo_20 (a0 a1 : AV) (σ : aM)  : ev 43 20 [a0, a1] [] σ = some (none, σ) := ev_ret f_Ord_lessenTo_20 rfl
theorem f_Ord_showAnew_0 : fetch 44 0 = some (.aload_n 0) := by decide +kernel
theorem e_Ord_showAnew_0 (σ : aM) (l0 : Option (Nat × Int)) (r : List AV)  : ev 44 0 [aQ l0] (r) σ = ev 44 1 [aQ l0] (aQ l0 :: r) σ := ev_go f_Ord_showAnew_0 rfl
theorem f_Ord_showAnew_1 : fetch 44 1 = some (.getfield 9) := by decide +kernel
theorem e_Ord_showAnew_1 (a0 : AV) (σ : aM) (i : Int) (r : List AV)  : ev 44 1 [a0] (aR 8 i :: r) σ = ev 44 4 [a0] (aI (gI σ 8 i 1) :: r) σ := ev_go f_Ord_showAnew_1 rfl
theorem f_Ord_showAnew_4 : fetch 44 4 = some (.iconst 2) := by decide +kernel
theorem e_Ord_showAnew_4 (a0 : AV) (σ : aM) (r : List AV)  : ev 44 4 [a0] (r) σ = ev 44 5 [a0] (aI 2 :: r) σ := ev_go f_Ord_showAnew_4 rfl
theorem f_Ord_showAnew_5 : fetch 44 5 = some (.if_icmp .ne 18) := by decide +kernel
theorem e_Ord_showAnew_5 (a0 : AV) (σ : aM) (x z : Int) (r : List AV) : ev 44 5 [a0] (aI z :: aI x :: r) σ = if ¬ x = z then ev 44 23 [a0] r σ else ev 44 8 [a0] r σ := ev_br f_Ord_showAnew_5 rfl bc_ne
theorem f_Ord_showAnew_8 : fetch 44 8 = some (.aload_n 0) := by decide +kernel
theorem e_Ord_showAnew_8 (σ : aM) (l0 : Option (Nat × Int)) (r : List AV)  : ev 44 8 [aQ l0] (r) σ = ev 44 9 [aQ l0] (aQ l0 :: r) σ := ev_go f_Ord_showAnew_8 rfl
theorem f_Ord_showAnew_9 : fetch 44 9 = some (.aload_n 0) := by decide +kernel
theorem e_Ord_showAnew_9 (σ : aM) (l0 : Option (Nat × Int)) (r : List AV)  : ev 44 9 [aQ l0] (r) σ = ev 44 10 [aQ l0] (aQ l0 :: r) σ := ev_go f_Ord_showAnew_9 rfl
theorem f_Ord_showAnew_10 : fetch 44 10 = some (.getfield 33) := by decide +kernel
theorem e_Ord_showAnew_10 (a0 : AV) (σ : aM) (i : Int) (r : List AV)  : ev 44 10 [a0] (aR 8 i :: r) σ = ev 44 13 [a0] (aI (gI σ 8 i 8) :: r) σ := ev_go f_Ord_showAnew_10 rfl
theorem f_Ord_showAnew_13 : fetch 44 13 = some (.aload_n 0) := by decide +kernel
theorem e_Ord_showAnew_13 (σ : aM) (l0 : Option (Nat × Int)) (r : List AV)  : ev 44 13 [aQ l0] (r) σ = ev 44 14 [aQ l0] (aQ l0 :: r) σ := ev_go f_Ord_showAnew_13 rfl
theorem f_Ord_showAnew_14 : fetch 44 14 = some (.getfield 21) := by decide +kernel
theorem e_Ord_showAnew_14 (a0 : AV) (σ : aM) (i : Int) (r : List AV)  : ev 44 14 [a0] (aR 8 i :: r) σ = ev 44 17 [a0] (aI (gI σ 8 i 4) :: r) σ := ev_go f_Ord_showAnew_14 rfl
theorem f_Ord_showAnew_17 : fetch 44 17 = some (.invokestatic 49) := by decide +kernel
theorem e_Ord_showAnew_17 (a0 : AV) (σ : aM) (s0 : Option (Nat × Int)) (s1 : Int) (s2 : Int) : ev 44 17 [a0] [aI s2, aI s1, aQ s0] σ = ev 44 20 [a0] (aI (if s2 < s1 then s2 else s1) :: [aQ s0]) σ := ev_go f_Ord_showAnew_17 rfl
theorem f_Ord_showAnew_20 : fetch 44 20 = some (.putfield 36) := by decide +kernel
theorem e_Ord_showAnew_20 (a0 : AV) (σ : aM) (i : Int) (x : Int) (r : List AV)  : ev 44 20 [a0] (aI x :: aR 8 i :: r) σ = ev 44 23 [a0] (r) (uI σ 8 i 9 x) := ev_go f_Ord_showAnew_20 rfl
theorem f_Ord_showAnew_23 : fetch 44 23 = some (.return_) := by decide +kernel
theorem e_Ord_showAnew_23 (a0 : AV) (σ : aM)  : ev 44 23 [a0] [] σ = some (none, σ) := ev_ret f_Ord_showAnew_23 rfl
theorem f_Rk_lineUp_0 : fetch 46 0 = some (.aload_n 0) := by decide +kernel
theorem e_Rk_lineUp_0 (a1 a2 a3 a4 a5 a6 : AV) (σ : aM) (l0 : Option (Nat × Int)) (r : List AV)  : ev 46 0 [aQ l0, a1, a2, a3, a4, a5, a6] (r) σ = ev 46 1 [aQ l0, a1, a2, a3, a4, a5, a6] (aQ l0 :: r) σ := ev_go f_Rk_lineUp_0 rfl
theorem f_Rk_lineUp_1 : fetch 46 1 = some (.iconst 0) := by decide +kernel
theorem e_Rk_lineUp_1 (a0 a1 a2 a3 a4 a5 a6 : AV) (σ : aM) (r : List AV)  : ev 46 1 [a0, a1, a2, a3, a4, a5, a6] (r) σ = ev 46 2 [a0, a1, a2, a3, a4, a5, a6] (aI 0 :: r) σ := ev_go f_Rk_lineUp_1 rfl
theorem f_Rk_lineUp_2 : fetch 46 2 = some (.putfield 21) := by decide +kernel
theorem e_Rk_lineUp_2 (a0 a1 a2 a3 a4 a5 a6 : AV) (σ : aM) (i : Int) (x : Int) (r : List AV)  : ev 46 2 [a0, a1, a2, a3, a4, a5, a6] (aI x :: aR 16 i :: r) σ = ev 46 5 [a0, a1, a2, a3, a4, a5, a6] (r) (uI σ 16 i 2 x) := ev_go f_Rk_lineUp_2 rfl
theorem f_Rk_lineUp_5 : fetch 46 5 = some (.aload_n 1) := by decide +kernel
theorem e_Rk_lineUp_5 (a0 a2 a3 a4 a5 a6 : AV) (σ : aM) (l1 : Option (Nat × Int)) (r : List AV)  : ev 46 5 [a0, aQ l1, a2, a3, a4, a5, a6] (r) σ = ev 46 6 [a0, aQ l1, a2, a3, a4, a5, a6] (aQ l1 :: r) σ := ev_go f_Rk_lineUp_5 rfl
theorem f_Rk_lineUp_6 : fetch 46 6 = some (.iload_n 2) := by decide +kernel
theorem e_Rk_lineUp_6 (a0 a1 a3 a4 a5 a6 : AV) (σ : aM) (l2 : Int) (r : List AV)  : ev 46 6 [a0, a1, aI l2, a3, a4, a5, a6] (r) σ = ev 46 7 [a0, a1, aI l2, a3, a4, a5, a6] (aI l2 :: r) σ := ev_go f_Rk_lineUp_6 rfl
theorem f_Rk_lineUp_7 : fetch 46 7 = some (.invokevirtual 25) := by decide +kernel
theorem e_Rk_lineUp_7 (a0 a1 a2 a3 a4 a5 a6 : AV) (σ : aM) (s0 : Int) (s1 : Int) : ev 46 7 [a0, a1, a2, a3, a4, a5, a6] [aI s1, aR 6 s0] σ = evK 46 10 [a0, a1, a2, a3, a4, a5, a6] [] (ev 9 0 [aR 6 s0, aI s1, aU] [] σ) := ev_call f_Rk_lineUp_7 rfl rfl
theorem f_Rk_lineUp_10 : fetch 46 10 = some (.istore_n 3) := by decide +kernel
theorem e_Rk_lineUp_10 (a0 a1 a3 a4 a5 a6 : AV) (σ : aM) (x : Int) (l2 : Int) (r : List AV)  : ev 46 10 [a0, a1, aI l2, a3, a4, a5, a6] (aI x :: r) σ = ev 46 11 [a0, a1, aI l2, aI x, a4, a5, a6] (r) σ := ev_go f_Rk_lineUp_10 rfl
theorem f_Rk_lineUp_11 : fetch 46 11 = some (.iconst 0) := by decide +kernel
theorem e_Rk_lineUp_11 (a0 a1 a2 a3 a4 a5 a6 : AV) (σ : aM) (r : List AV)  : ev 46 11 [a0, a1, a2, a3, a4, a5, a6] (r) σ = ev 46 12 [a0, a1, a2, a3, a4, a5, a6] (aI 0 :: r) σ := ev_go f_Rk_lineUp_11 rfl
theorem f_Rk_lineUp_12 : fetch 46 12 = some (.istore 4) := by decide +kernel
theorem e_Rk_lineUp_12 (a0 a1 a2 a4 a5 a6 : AV) (σ : aM) (x : Int) (l3 : Int) (r : List AV)  : ev 46 12 [a0, a1, a2, aI l3, a4, a5, a6] (aI x :: r) σ = ev 46 14 [a0, a1, a2, aI l3, aI x, a5, a6] (r) σ := ev_go f_Rk_lineUp_12 rfl
theorem f_Rk_lineUp_14 : fetch 46 14 = some (.iload 4) := by decide +kernel
theorem e_Rk_lineUp_14 (a0 a1 a2 a3 a5 a6 : AV) (σ : aM) (l4 : Int) (r : List AV)  : ev 46 14 [a0, a1, a2, a3, aI l4, a5, a6] (r) σ = ev 46 16 [a0, a1, a2, a3, aI l4, a5, a6] (aI l4 :: r) σ := ev_go f_Rk_lineUp_14 rfl
theorem f_Rk_lineUp_16 : fetch 46 16 = some (.aload_n 1) := by decide +kernel
theorem e_Rk_lineUp_16 (a0 a2 a3 a4 a5 a6 : AV) (σ : aM) (l1 : Option (Nat × Int)) (r : List AV)  : ev 46 16 [a0, aQ l1, a2, a3, a4, a5, a6] (r) σ = ev 46 17 [a0, aQ l1, a2, a3, a4, a5, a6] (aQ l1 :: r) σ := ev_go f_Rk_lineUp_16 rfl
theorem f_Rk_lineUp_17 : fetch 46 17 = some (.getfield 31) := by decide +kernel
theorem e_Rk_lineUp_17 (a0 a1 a2 a3 a4 a5 a6 : AV) (σ : aM) (i : Int) (r : List AV)  : ev 46 17 [a0, a1, a2, a3, a4, a5, a6] (aR 6 i :: r) σ = ev 46 20 [a0, a1, a2, a3, a4, a5, a6] (aI (gI σ 6 i 2) :: r) σ := ev_go f_Rk_lineUp_17 rfl
theorem f_Rk_lineUp_20 : fetch 46 20 = some (.if_icmp .ge 48) := by decide +kernel
theorem e_Rk_lineUp_20 (a0 a1 a2 a3 a4 a5 a6 : AV) (σ : aM) (x z : Int) (r : List AV) : ev 46 20 [a0, a1, a2, a3, a4, a5, a6] (aI z :: aI x :: r) σ = if z ≤ x then ev 46 68 [a0, a1, a2, a3, a4, a5, a6] r σ else ev 46 23 [a0, a1, a2, a3, a4, a5, a6] r σ := ev_br f_Rk_lineUp_20 rfl bc_ge
theorem f_Rk_lineUp_23 : fetch 46 23 = some (.aload_n 1) := by decide +kernel
theorem e_Rk_lineUp_23 (a0 a2 a3 a4 a5 a6 : AV) (σ : aM) (l1 : Option (Nat × Int)) (r : List AV)  : ev 46 23 [a0, aQ l1, a2, a3, a4, a5, a6] (r) σ = ev 46 24 [a0, aQ l1, a2, a3, a4, a5, a6] (aQ l1 :: r) σ := ev_go f_Rk_lineUp_23 rfl
theorem f_Rk_lineUp_24 : fetch 46 24 = some (.getfield 34) := by decide +kernel
theorem e_Rk_lineUp_24 (a0 a1 a2 a3 a4 a5 a6 : AV) (σ : aM) (i : Int) (r : List AV)  : ev 46 24 [a0, a1, a2, a3, a4, a5, a6] (aR 6 i :: r) σ = ev 46 27 [a0, a1, a2, a3, a4, a5, a6] (aR 7 i :: r) σ := ev_go f_Rk_lineUp_24 rfl
theorem f_Rk_lineUp_27 : fetch 46 27 = some (.iload 4) := by decide +kernel
theorem e_Rk_lineUp_27 (a0 a1 a2 a3 a5 a6 : AV) (σ : aM) (l4 : Int) (r : List AV)  : ev 46 27 [a0, a1, a2, a3, aI l4, a5, a6] (r) σ = ev 46 29 [a0, a1, a2, a3, aI l4, a5, a6] (aI l4 :: r) σ := ev_go f_Rk_lineUp_27 rfl
theorem f_Rk_lineUp_29 : fetch 46 29 = some (.aaload) := by decide +kernel
theorem e_Rk_lineUp_29 (a0 a1 a2 a3 a4 a5 a6 : AV) (σ : aM) (x : Int) (i : Int) (r : List AV) (h : 0 ≤ x ∧ x < 60) : ev 46 29 [a0, a1, a2, a3, a4, a5, a6] (aI x :: aR 7 i :: r) σ = ev 46 30 [a0, a1, a2, a3, a4, a5, a6] (aR 8 (60 * i + x) :: r) σ := ev_cd f_Rk_lineUp_29 rfl ⟨by decide, by decide, h.1, by rw [aLen_n (by decide) rfl]; exact h.2⟩
theorem f_Rk_lineUp_30 : fetch 46 30 = some (.astore 5) := by decide +kernel
theorem e_Rk_lineUp_30 (a0 a1 a2 a3 a5 a6 : AV) (σ : aM) (q : Option (Nat × Int)) (l4 : Int) (r : List AV)  : ev 46 30 [a0, a1, a2, a3, aI l4, a5, a6] (aQ q :: r) σ = ev 46 32 [a0, a1, a2, a3, aI l4, aQ q, a6] (r) σ := ev_go f_Rk_lineUp_30 rfl
theorem f_Rk_lineUp_32 : fetch 46 32 = some (.aload 5) := by decide +kernel
theorem e_Rk_lineUp_32 (a0 a1 a2 a3 a4 a6 : AV) (σ : aM) (l5 : Option (Nat × Int)) (r : List AV)  : ev 46 32 [a0, a1, a2, a3, a4, aQ l5, a6] (r) σ = ev 46 34 [a0, a1, a2, a3, a4, aQ l5, a6] (aQ l5 :: r) σ := ev_go f_Rk_lineUp_32 rfl
theorem f_Rk_lineUp_34 : fetch 46 34 = some (.iload_n 3) := by decide +kernel
theorem e_Rk_lineUp_34 (a0 a1 a2 a4 a5 a6 : AV) (σ : aM) (l3 : Int) (r : List AV)  : ev 46 34 [a0, a1, a2, aI l3, a4, a5, a6] (r) σ = ev 46 35 [a0, a1, a2, aI l3, a4, a5, a6] (aI l3 :: r) σ := ev_go f_Rk_lineUp_34 rfl
theorem f_Rk_lineUp_35 : fetch 46 35 = some (.invokevirtual 37) := by decide +kernel
theorem e_Rk_lineUp_35 (a0 a1 a2 a3 a4 a5 a6 : AV) (σ : aM) (s0 : Int) (s1 : Int) : ev 46 35 [a0, a1, a2, a3, a4, a5, a6] [aI s1, aR 8 s0] σ = evK 46 38 [a0, a1, a2, a3, a4, a5, a6] [] (ev 40 0 [aR 8 s0, aI s1, aU] [] σ) := ev_call f_Rk_lineUp_35 rfl rfl
theorem f_Rk_lineUp_38 : fetch 46 38 = some (.istore 6) := by decide +kernel
theorem e_Rk_lineUp_38 (a0 a1 a2 a3 a4 a6 : AV) (σ : aM) (x : Int) (l5 : Option (Nat × Int)) (r : List AV)  : ev 46 38 [a0, a1, a2, a3, a4, aQ l5, a6] (aI x :: r) σ = ev 46 40 [a0, a1, a2, a3, a4, aQ l5, aI x] (r) σ := ev_go f_Rk_lineUp_38 rfl
theorem f_Rk_lineUp_40 : fetch 46 40 = some (.aload 5) := by decide +kernel
theorem e_Rk_lineUp_40 (a0 a1 a2 a3 a4 a6 : AV) (σ : aM) (l5 : Option (Nat × Int)) (r : List AV)  : ev 46 40 [a0, a1, a2, a3, a4, aQ l5, a6] (r) σ = ev 46 42 [a0, a1, a2, a3, a4, aQ l5, a6] (aQ l5 :: r) σ := ev_go f_Rk_lineUp_40 rfl
theorem f_Rk_lineUp_42 : fetch 46 42 = some (.iload_n 2) := by decide +kernel
theorem e_Rk_lineUp_42 (a0 a1 a3 a4 a5 a6 : AV) (σ : aM) (l2 : Int) (r : List AV)  : ev 46 42 [a0, a1, aI l2, a3, a4, a5, a6] (r) σ = ev 46 43 [a0, a1, aI l2, a3, a4, a5, a6] (aI l2 :: r) σ := ev_go f_Rk_lineUp_42 rfl
theorem f_Rk_lineUp_43 : fetch 46 43 = some (.invokevirtual 40) := by decide +kernel
theorem e_Rk_lineUp_43 (a0 a1 a2 a3 a4 a5 a6 : AV) (σ : aM) (s0 : Int) (s1 : Int) : ev 46 43 [a0, a1, a2, a3, a4, a5, a6] [aI s1, aR 8 s0] σ = evK 46 46 [a0, a1, a2, a3, a4, a5, a6] [] (ev 38 0 [aR 8 s0, aI s1] [] σ) := ev_call f_Rk_lineUp_43 rfl rfl
theorem f_Rk_lineUp_46 : fetch 46 46 = some (.ifCond .eq 16) := by decide +kernel
theorem e_Rk_lineUp_46 (a0 a1 a2 a3 a4 a5 a6 : AV) (σ : aM) (x : Int) (r : List AV) : ev 46 46 [a0, a1, a2, a3, a4, a5, a6] (aI x :: r) σ = if x = 0 then ev 46 62 [a0, a1, a2, a3, a4, a5, a6] r σ else ev 46 49 [a0, a1, a2, a3, a4, a5, a6] r σ := ev_br f_Rk_lineUp_46 rfl bc_eq
theorem f_Rk_lineUp_49 : fetch 46 49 = some (.iload 6) := by decide +kernel
theorem e_Rk_lineUp_49 (a0 a1 a2 a3 a4 a5 : AV) (σ : aM) (l6 : Int) (r : List AV)  : ev 46 49 [a0, a1, a2, a3, a4, a5, aI l6] (r) σ = ev 46 51 [a0, a1, a2, a3, a4, a5, aI l6] (aI l6 :: r) σ := ev_go f_Rk_lineUp_49 rfl
theorem f_Rk_lineUp_51 : fetch 46 51 = some (.ifCond .eq 11) := by decide +kernel
theorem e_Rk_lineUp_51 (a0 a1 a2 a3 a4 a5 a6 : AV) (σ : aM) (x : Int) (r : List AV) : ev 46 51 [a0, a1, a2, a3, a4, a5, a6] (aI x :: r) σ = if x = 0 then ev 46 62 [a0, a1, a2, a3, a4, a5, a6] r σ else ev 46 54 [a0, a1, a2, a3, a4, a5, a6] r σ := ev_br f_Rk_lineUp_51 rfl bc_eq
theorem f_Rk_lineUp_54 : fetch 46 54 = some (.aload_n 0) := by decide +kernel
theorem e_Rk_lineUp_54 (a1 a2 a3 a4 a5 a6 : AV) (σ : aM) (l0 : Option (Nat × Int)) (r : List AV)  : ev 46 54 [aQ l0, a1, a2, a3, a4, a5, a6] (r) σ = ev 46 55 [aQ l0, a1, a2, a3, a4, a5, a6] (aQ l0 :: r) σ := ev_go f_Rk_lineUp_54 rfl
theorem f_Rk_lineUp_55 : fetch 46 55 = some (.aload 5) := by decide +kernel
theorem e_Rk_lineUp_55 (a0 a1 a2 a3 a4 a6 : AV) (σ : aM) (l5 : Option (Nat × Int)) (r : List AV)  : ev 46 55 [a0, a1, a2, a3, a4, aQ l5, a6] (r) σ = ev 46 57 [a0, a1, a2, a3, a4, aQ l5, a6] (aQ l5 :: r) σ := ev_go f_Rk_lineUp_55 rfl
theorem f_Rk_lineUp_57 : fetch 46 57 = some (.iload 6) := by decide +kernel
theorem e_Rk_lineUp_57 (a0 a1 a2 a3 a4 a5 : AV) (σ : aM) (l6 : Int) (r : List AV)  : ev 46 57 [a0, a1, a2, a3, a4, a5, aI l6] (r) σ = ev 46 59 [a0, a1, a2, a3, a4, a5, aI l6] (aI l6 :: r) σ := ev_go f_Rk_lineUp_57 rfl
theorem f_Rk_lineUp_59 : fetch 46 59 = some (.invokevirtual 44) := by decide +kernel
theorem e_Rk_lineUp_59 (a0 a1 a2 a3 a4 a5 a6 : AV) (σ : aM) (s0 : Int) (s1 : Option (Nat × Int)) (s2 : Int) : ev 46 59 [a0, a1, a2, a3, a4, a5, a6] [aI s2, aQ s1, aR 16 s0] σ = evK 46 62 [a0, a1, a2, a3, a4, a5, a6] [] (ev 47 0 [aR 16 s0, aQ s1, aI s2, aU] [] σ) := ev_call f_Rk_lineUp_59 rfl rfl
theorem f_Rk_lineUp_62 : fetch 46 62 = some (.iinc 4 1) := by decide +kernel
theorem e_Rk_lineUp_62 (a0 a1 a2 a5 a6 : AV) (σ : aM) (l4 : Int) (l3 : Int) (r : List AV)  : ev 46 62 [a0, a1, a2, aI l3, aI l4, a5, a6] (r) σ = ev 46 65 [a0, a1, a2, aI l3, aI (wr (l4 + 1)), a5, a6] (r) σ := ev_go f_Rk_lineUp_62 rfl
theorem f_Rk_lineUp_65 : fetch 46 65 = some (.goto (-51)) := by decide +kernel
theorem e_Rk_lineUp_65 (a0 a1 a2 a3 a4 a5 a6 : AV) (σ : aM) (r : List AV)  : ev 46 65 [a0, a1, a2, a3, a4, a5, a6] (r) σ = ev 46 14 [a0, a1, a2, a3, a4, a5, a6] (r) σ := ev_go f_Rk_lineUp_65 rfl
theorem f_Rk_lineUp_68 : fetch 46 68 = some (.return_) := by decide +kernel
theorem e_Rk_lineUp_68 (a0 a1 a2 a3 a4 a5 a6 : AV) (σ : aM)  : ev 46 68 [a0, a1, a2, a3, a4, a5, a6] [] σ = some (none, σ) := ev_ret f_Rk_lineUp_68 rfl
theorem f_Rk_placeIn_0 : fetch 47 0 = some (.aload_n 0) := by decide +kernel
theorem e_Rk_placeIn_0 (a1 a2 a3 : AV) (σ : aM) (l0 : Option (Nat × Int)) (r : List AV)  : ev 47 0 [aQ l0, a1, a2, a3] (r) σ = ev 47 1 [aQ l0, a1, a2, a3] (aQ l0 :: r) σ := ev_go f_Rk_placeIn_0 rfl
theorem f_Rk_placeIn_1 : fetch 47 1 = some (.getfield 21) := by decide +kernel
theorem e_Rk_placeIn_1 (a0 a1 a2 a3 : AV) (σ : aM) (i : Int) (r : List AV)  : ev 47 1 [a0, a1, a2, a3] (aR 16 i :: r) σ = ev 47 4 [a0, a1, a2, a3] (aI (gI σ 16 i 2) :: r) σ := ev_go f_Rk_placeIn_1 rfl
theorem f_Rk_placeIn_4 : fetch 47 4 = some (.bipush 60) := by decide +kernel
theorem e_Rk_placeIn_4 (a0 a1 a2 a3 : AV) (σ : aM) (r : List AV)  : ev 47 4 [a0, a1, a2, a3] (r) σ = ev 47 6 [a0, a1, a2, a3] (aI 60 :: r) σ := ev_go f_Rk_placeIn_4 rfl
theorem f_Rk_placeIn_6 : fetch 47 6 = some (.if_icmp .lt 4) := by decide +kernel
theorem e_Rk_placeIn_6 (a0 a1 a2 a3 : AV) (σ : aM) (x z : Int) (r : List AV) : ev 47 6 [a0, a1, a2, a3] (aI z :: aI x :: r) σ = if x < z then ev 47 10 [a0, a1, a2, a3] r σ else ev 47 9 [a0, a1, a2, a3] r σ := ev_br f_Rk_placeIn_6 rfl bc_lt
theorem f_Rk_placeIn_9 : fetch 47 9 = some (.return_) := by decide +kernel
theorem e_Rk_placeIn_9 (a0 a1 a2 a3 : AV) (σ : aM)  : ev 47 9 [a0, a1, a2, a3] [] σ = some (none, σ) := ev_ret f_Rk_placeIn_9 rfl
theorem f_Rk_placeIn_10 : fetch 47 10 = some (.aload_n 0) := by decide +kernel
theorem e_Rk_placeIn_10 (a1 a2 a3 : AV) (σ : aM) (l0 : Option (Nat × Int)) (r : List AV)  : ev 47 10 [aQ l0, a1, a2, a3] (r) σ = ev 47 11 [aQ l0, a1, a2, a3] (aQ l0 :: r) σ := ev_go f_Rk_placeIn_10 rfl
theorem f_Rk_placeIn_11 : fetch 47 11 = some (.getfield 21) := by decide +kernel
theorem e_Rk_placeIn_11 (a0 a1 a2 a3 : AV) (σ : aM) (i : Int) (r : List AV)  : ev 47 11 [a0, a1, a2, a3] (aR 16 i :: r) σ = ev 47 14 [a0, a1, a2, a3] (aI (gI σ 16 i 2) :: r) σ := ev_go f_Rk_placeIn_11 rfl
theorem f_Rk_placeIn_14 : fetch 47 14 = some (.istore_n 3) := by decide +kernel
theorem e_Rk_placeIn_14 (a0 a1 a3 : AV) (σ : aM) (x : Int) (l2 : Int) (r : List AV)  : ev 47 14 [a0, a1, aI l2, a3] (aI x :: r) σ = ev 47 15 [a0, a1, aI l2, aI x] (r) σ := ev_go f_Rk_placeIn_14 rfl
theorem f_Rk_placeIn_15 : fetch 47 15 = some (.iload_n 3) := by decide +kernel
theorem e_Rk_placeIn_15 (a0 a1 a2 : AV) (σ : aM) (l3 : Int) (r : List AV)  : ev 47 15 [a0, a1, a2, aI l3] (r) σ = ev 47 16 [a0, a1, a2, aI l3] (aI l3 :: r) σ := ev_go f_Rk_placeIn_15 rfl
theorem f_Rk_placeIn_16 : fetch 47 16 = some (.ifCond .le 61) := by decide +kernel
theorem e_Rk_placeIn_16 (a0 a1 a2 a3 : AV) (σ : aM) (x : Int) (r : List AV) : ev 47 16 [a0, a1, a2, a3] (aI x :: r) σ = if x ≤ 0 then ev 47 77 [a0, a1, a2, a3] r σ else ev 47 19 [a0, a1, a2, a3] r σ := ev_br f_Rk_placeIn_16 rfl bc_le
theorem f_Rk_placeIn_19 : fetch 47 19 = some (.aload_n 1) := by decide +kernel
theorem e_Rk_placeIn_19 (a0 a2 a3 : AV) (σ : aM) (l1 : Option (Nat × Int)) (r : List AV)  : ev 47 19 [a0, aQ l1, a2, a3] (r) σ = ev 47 20 [a0, aQ l1, a2, a3] (aQ l1 :: r) σ := ev_go f_Rk_placeIn_19 rfl
theorem f_Rk_placeIn_20 : fetch 47 20 = some (.aload_n 0) := by decide +kernel
theorem e_Rk_placeIn_20 (a1 a2 a3 : AV) (σ : aM) (l0 : Option (Nat × Int)) (r : List AV)  : ev 47 20 [aQ l0, a1, a2, a3] (r) σ = ev 47 21 [aQ l0, a1, a2, a3] (aQ l0 :: r) σ := ev_go f_Rk_placeIn_20 rfl
theorem f_Rk_placeIn_21 : fetch 47 21 = some (.getfield 11) := by decide +kernel
theorem e_Rk_placeIn_21 (a0 a1 a2 a3 : AV) (σ : aM) (i : Int) (r : List AV)  : ev 47 21 [a0, a1, a2, a3] (aR 16 i :: r) σ = ev 47 24 [a0, a1, a2, a3] (aR 17 0 :: r) σ := ev_go f_Rk_placeIn_21 rfl
theorem f_Rk_placeIn_24 : fetch 47 24 = some (.iload_n 3) := by decide +kernel
theorem e_Rk_placeIn_24 (a0 a1 a2 : AV) (σ : aM) (l3 : Int) (r : List AV)  : ev 47 24 [a0, a1, a2, aI l3] (r) σ = ev 47 25 [a0, a1, a2, aI l3] (aI l3 :: r) σ := ev_go f_Rk_placeIn_24 rfl
theorem f_Rk_placeIn_25 : fetch 47 25 = some (.iconst 1) := by decide +kernel
theorem e_Rk_placeIn_25 (a0 a1 a2 a3 : AV) (σ : aM) (r : List AV)  : ev 47 25 [a0, a1, a2, a3] (r) σ = ev 47 26 [a0, a1, a2, a3] (aI 1 :: r) σ := ev_go f_Rk_placeIn_25 rfl
theorem f_Rk_placeIn_26 : fetch 47 26 = some (.isub) := by decide +kernel
theorem e_Rk_placeIn_26 (a0 a1 a2 a3 : AV) (σ : aM) (x z : Int) (r : List AV)  : ev 47 26 [a0, a1, a2, a3] (aI z :: aI x :: r) σ = ev 47 27 [a0, a1, a2, a3] (aI (wr (x - z)) :: r) σ := ev_go f_Rk_placeIn_26 rfl
theorem f_Rk_placeIn_27 : fetch 47 27 = some (.aaload) := by decide +kernel
theorem e_Rk_placeIn_27 (a0 a1 a2 a3 : AV) (σ : aM) (x : Int) (i : Int) (r : List AV) (h : 0 ≤ x ∧ x < 60) : ev 47 27 [a0, a1, a2, a3] (aI x :: aR 17 i :: r) σ = ev 47 28 [a0, a1, a2, a3] (aQ (gR σ x) :: r) σ := ev_cd f_Rk_placeIn_27 rfl ⟨by decide, by decide, h.1, by rw [aLen_n (by decide) rfl]; exact h.2⟩
theorem f_Rk_placeIn_28 : fetch 47 28 = some (.iload_n 2) := by decide +kernel
theorem e_Rk_placeIn_28 (a0 a1 a3 : AV) (σ : aM) (l2 : Int) (r : List AV)  : ev 47 28 [a0, a1, aI l2, a3] (r) σ = ev 47 29 [a0, a1, aI l2, a3] (aI l2 :: r) σ := ev_go f_Rk_placeIn_28 rfl
theorem f_Rk_placeIn_29 : fetch 47 29 = some (.aload_n 0) := by decide +kernel
theorem e_Rk_placeIn_29 (a1 a2 a3 : AV) (σ : aM) (l0 : Option (Nat × Int)) (r : List AV)  : ev 47 29 [aQ l0, a1, a2, a3] (r) σ = ev 47 30 [aQ l0, a1, a2, a3] (aQ l0 :: r) σ := ev_go f_Rk_placeIn_29 rfl
theorem f_Rk_placeIn_30 : fetch 47 30 = some (.getfield 17) := by decide +kernel
theorem e_Rk_placeIn_30 (a0 a1 a2 a3 : AV) (σ : aM) (i : Int) (r : List AV)  : ev 47 30 [a0, a1, a2, a3] (aR 16 i :: r) σ = ev 47 33 [a0, a1, a2, a3] (aR 18 0 :: r) σ := ev_go f_Rk_placeIn_30 rfl
theorem f_Rk_placeIn_33 : fetch 47 33 = some (.iload_n 3) := by decide +kernel
theorem e_Rk_placeIn_33 (a0 a1 a2 : AV) (σ : aM) (l3 : Int) (r : List AV)  : ev 47 33 [a0, a1, a2, aI l3] (r) σ = ev 47 34 [a0, a1, a2, aI l3] (aI l3 :: r) σ := ev_go f_Rk_placeIn_33 rfl
theorem f_Rk_placeIn_34 : fetch 47 34 = some (.iconst 1) := by decide +kernel
theorem e_Rk_placeIn_34 (a0 a1 a2 a3 : AV) (σ : aM) (r : List AV)  : ev 47 34 [a0, a1, a2, a3] (r) σ = ev 47 35 [a0, a1, a2, a3] (aI 1 :: r) σ := ev_go f_Rk_placeIn_34 rfl
theorem f_Rk_placeIn_35 : fetch 47 35 = some (.isub) := by decide +kernel
theorem e_Rk_placeIn_35 (a0 a1 a2 a3 : AV) (σ : aM) (x z : Int) (r : List AV)  : ev 47 35 [a0, a1, a2, a3] (aI z :: aI x :: r) σ = ev 47 36 [a0, a1, a2, a3] (aI (wr (x - z)) :: r) σ := ev_go f_Rk_placeIn_35 rfl
theorem f_Rk_placeIn_36 : fetch 47 36 = some (.iaload) := by decide +kernel
theorem e_Rk_placeIn_36 (a0 a1 a2 a3 : AV) (σ : aM) (x : Int) (i : Int) (r : List AV) (h : 0 ≤ x ∧ x < 60) : ev 47 36 [a0, a1, a2, a3] (aI x :: aR 18 i :: r) σ = ev 47 37 [a0, a1, a2, a3] (aI (gI σ 18 i x) :: r) σ := ev_ld (j := i) f_Rk_placeIn_36 rfl rfl (by decide) rfl h
theorem f_Rk_placeIn_37 : fetch 47 37 = some (.invokevirtual 48) := by decide +kernel
theorem e_Rk_placeIn_37 (a0 a1 a2 a3 : AV) (σ : aM) (s0 : Int) (s1 : Option (Nat × Int)) (s2 : Int) (s3 : Int) : ev 47 37 [a0, a1, a2, a3] [aI s3, aI s2, aQ s1, aR 8 s0] σ = evK 47 40 [a0, a1, a2, a3] [] (ev 41 0 [aR 8 s0, aQ s1, aI s2, aI s3] [] σ) := ev_call f_Rk_placeIn_37 rfl rfl
theorem f_Rk_placeIn_40 : fetch 47 40 = some (.ifCond .eq 37) := by decide +kernel
theorem e_Rk_placeIn_40 (a0 a1 a2 a3 : AV) (σ : aM) (x : Int) (r : List AV) : ev 47 40 [a0, a1, a2, a3] (aI x :: r) σ = if x = 0 then ev 47 77 [a0, a1, a2, a3] r σ else ev 47 43 [a0, a1, a2, a3] r σ := ev_br f_Rk_placeIn_40 rfl bc_eq
theorem f_Rk_placeIn_43 : fetch 47 43 = some (.aload_n 0) := by decide +kernel
theorem e_Rk_placeIn_43 (a1 a2 a3 : AV) (σ : aM) (l0 : Option (Nat × Int)) (r : List AV)  : ev 47 43 [aQ l0, a1, a2, a3] (r) σ = ev 47 44 [aQ l0, a1, a2, a3] (aQ l0 :: r) σ := ev_go f_Rk_placeIn_43 rfl
theorem f_Rk_placeIn_44 : fetch 47 44 = some (.getfield 11) := by decide +kernel
theorem e_Rk_placeIn_44 (a0 a1 a2 a3 : AV) (σ : aM) (i : Int) (r : List AV)  : ev 47 44 [a0, a1, a2, a3] (aR 16 i :: r) σ = ev 47 47 [a0, a1, a2, a3] (aR 17 0 :: r) σ := ev_go f_Rk_placeIn_44 rfl
theorem f_Rk_placeIn_47 : fetch 47 47 = some (.iload_n 3) := by decide +kernel
theorem e_Rk_placeIn_47 (a0 a1 a2 : AV) (σ : aM) (l3 : Int) (r : List AV)  : ev 47 47 [a0, a1, a2, aI l3] (r) σ = ev 47 48 [a0, a1, a2, aI l3] (aI l3 :: r) σ := ev_go f_Rk_placeIn_47 rfl
theorem f_Rk_placeIn_48 : fetch 47 48 = some (.aload_n 0) := by decide +kernel
theorem e_Rk_placeIn_48 (a1 a2 a3 : AV) (σ : aM) (l0 : Option (Nat × Int)) (r : List AV)  : ev 47 48 [aQ l0, a1, a2, a3] (r) σ = ev 47 49 [aQ l0, a1, a2, a3] (aQ l0 :: r) σ := ev_go f_Rk_placeIn_48 rfl
theorem f_Rk_placeIn_49 : fetch 47 49 = some (.getfield 11) := by decide +kernel
theorem e_Rk_placeIn_49 (a0 a1 a2 a3 : AV) (σ : aM) (i : Int) (r : List AV)  : ev 47 49 [a0, a1, a2, a3] (aR 16 i :: r) σ = ev 47 52 [a0, a1, a2, a3] (aR 17 0 :: r) σ := ev_go f_Rk_placeIn_49 rfl
theorem f_Rk_placeIn_52 : fetch 47 52 = some (.iload_n 3) := by decide +kernel
theorem e_Rk_placeIn_52 (a0 a1 a2 : AV) (σ : aM) (l3 : Int) (r : List AV)  : ev 47 52 [a0, a1, a2, aI l3] (r) σ = ev 47 53 [a0, a1, a2, aI l3] (aI l3 :: r) σ := ev_go f_Rk_placeIn_52 rfl
theorem f_Rk_placeIn_53 : fetch 47 53 = some (.iconst 1) := by decide +kernel
theorem e_Rk_placeIn_53 (a0 a1 a2 a3 : AV) (σ : aM) (r : List AV)  : ev 47 53 [a0, a1, a2, a3] (r) σ = ev 47 54 [a0, a1, a2, a3] (aI 1 :: r) σ := ev_go f_Rk_placeIn_53 rfl
theorem f_Rk_placeIn_54 : fetch 47 54 = some (.isub) := by decide +kernel
theorem e_Rk_placeIn_54 (a0 a1 a2 a3 : AV) (σ : aM) (x z : Int) (r : List AV)  : ev 47 54 [a0, a1, a2, a3] (aI z :: aI x :: r) σ = ev 47 55 [a0, a1, a2, a3] (aI (wr (x - z)) :: r) σ := ev_go f_Rk_placeIn_54 rfl
theorem f_Rk_placeIn_55 : fetch 47 55 = some (.aaload) := by decide +kernel
theorem e_Rk_placeIn_55 (a0 a1 a2 a3 : AV) (σ : aM) (x : Int) (i : Int) (r : List AV) (h : 0 ≤ x ∧ x < 60) : ev 47 55 [a0, a1, a2, a3] (aI x :: aR 17 i :: r) σ = ev 47 56 [a0, a1, a2, a3] (aQ (gR σ x) :: r) σ := ev_cd f_Rk_placeIn_55 rfl ⟨by decide, by decide, h.1, by rw [aLen_n (by decide) rfl]; exact h.2⟩
theorem f_Rk_placeIn_56 : fetch 47 56 = some (.aastore) := by decide +kernel
theorem e_Rk_placeIn_56 (a0 a1 a2 a3 : AV) (σ : aM) (x : Int) (i i2 : Int) (r : List AV) (h : 0 ≤ x ∧ x < 60) : ev 47 56 [a0, a1, a2, a3] (aR 8 i2 :: aI x :: aR 17 i :: r) σ = ev 47 57 [a0, a1, a2, a3] (r) (uR σ x (some (8, i2))) := ev_cd f_Rk_placeIn_56 rfl ⟨rfl, rfl, h.1, by rw [aLen_n (by decide) rfl]; exact h.2⟩
theorem f_Rk_placeIn_57 : fetch 47 57 = some (.aload_n 0) := by decide +kernel
theorem e_Rk_placeIn_57 (a1 a2 a3 : AV) (σ : aM) (l0 : Option (Nat × Int)) (r : List AV)  : ev 47 57 [aQ l0, a1, a2, a3] (r) σ = ev 47 58 [aQ l0, a1, a2, a3] (aQ l0 :: r) σ := ev_go f_Rk_placeIn_57 rfl
theorem f_Rk_placeIn_58 : fetch 47 58 = some (.getfield 17) := by decide +kernel
theorem e_Rk_placeIn_58 (a0 a1 a2 a3 : AV) (σ : aM) (i : Int) (r : List AV)  : ev 47 58 [a0, a1, a2, a3] (aR 16 i :: r) σ = ev 47 61 [a0, a1, a2, a3] (aR 18 0 :: r) σ := ev_go f_Rk_placeIn_58 rfl
theorem f_Rk_placeIn_61 : fetch 47 61 = some (.iload_n 3) := by decide +kernel
theorem e_Rk_placeIn_61 (a0 a1 a2 : AV) (σ : aM) (l3 : Int) (r : List AV)  : ev 47 61 [a0, a1, a2, aI l3] (r) σ = ev 47 62 [a0, a1, a2, aI l3] (aI l3 :: r) σ := ev_go f_Rk_placeIn_61 rfl
theorem f_Rk_placeIn_62 : fetch 47 62 = some (.aload_n 0) := by decide +kernel
theorem e_Rk_placeIn_62 (a1 a2 a3 : AV) (σ : aM) (l0 : Option (Nat × Int)) (r : List AV)  : ev 47 62 [aQ l0, a1, a2, a3] (r) σ = ev 47 63 [aQ l0, a1, a2, a3] (aQ l0 :: r) σ := ev_go f_Rk_placeIn_62 rfl
theorem f_Rk_placeIn_63 : fetch 47 63 = some (.getfield 17) := by decide +kernel
theorem e_Rk_placeIn_63 (a0 a1 a2 a3 : AV) (σ : aM) (i : Int) (r : List AV)  : ev 47 63 [a0, a1, a2, a3] (aR 16 i :: r) σ = ev 47 66 [a0, a1, a2, a3] (aR 18 0 :: r) σ := ev_go f_Rk_placeIn_63 rfl
theorem f_Rk_placeIn_66 : fetch 47 66 = some (.iload_n 3) := by decide +kernel
theorem e_Rk_placeIn_66 (a0 a1 a2 : AV) (σ : aM) (l3 : Int) (r : List AV)  : ev 47 66 [a0, a1, a2, aI l3] (r) σ = ev 47 67 [a0, a1, a2, aI l3] (aI l3 :: r) σ := ev_go f_Rk_placeIn_66 rfl
theorem f_Rk_placeIn_67 : fetch 47 67 = some (.iconst 1) := by decide +kernel
theorem e_Rk_placeIn_67 (a0 a1 a2 a3 : AV) (σ : aM) (r : List AV)  : ev 47 67 [a0, a1, a2, a3] (r) σ = ev 47 68 [a0, a1, a2, a3] (aI 1 :: r) σ := ev_go f_Rk_placeIn_67 rfl
theorem f_Rk_placeIn_68 : fetch 47 68 = some (.isub) := by decide +kernel
theorem e_Rk_placeIn_68 (a0 a1 a2 a3 : AV) (σ : aM) (x z : Int) (r : List AV)  : ev 47 68 [a0, a1, a2, a3] (aI z :: aI x :: r) σ = ev 47 69 [a0, a1, a2, a3] (aI (wr (x - z)) :: r) σ := ev_go f_Rk_placeIn_68 rfl
theorem f_Rk_placeIn_69 : fetch 47 69 = some (.iaload) := by decide +kernel
theorem e_Rk_placeIn_69 (a0 a1 a2 a3 : AV) (σ : aM) (x : Int) (i : Int) (r : List AV) (h : 0 ≤ x ∧ x < 60) : ev 47 69 [a0, a1, a2, a3] (aI x :: aR 18 i :: r) σ = ev 47 70 [a0, a1, a2, a3] (aI (gI σ 18 i x) :: r) σ := ev_ld (j := i) f_Rk_placeIn_69 rfl rfl (by decide) rfl h
theorem f_Rk_placeIn_70 : fetch 47 70 = some (.iastore) := by decide +kernel
theorem e_Rk_placeIn_70 (a0 a1 a2 a3 : AV) (σ : aM) (x : Int) (i : Int) (v : Int) (r : List AV) (h : 0 ≤ x ∧ x < 60) : ev 47 70 [a0, a1, a2, a3] (aI v :: aI x :: aR 18 i :: r) σ = ev 47 71 [a0, a1, a2, a3] (r) (uI σ 18 i x v) := ev_st f_Rk_placeIn_70 rfl rfl (by decide) (by decide) rfl h
theorem f_Rk_placeIn_71 : fetch 47 71 = some (.iinc 3 (-1)) := by decide +kernel
theorem e_Rk_placeIn_71 (a0 a1 : AV) (σ : aM) (l3 : Int) (l2 : Int) (r : List AV)  : ev 47 71 [a0, a1, aI l2, aI l3] (r) σ = ev 47 74 [a0, a1, aI l2, aI (wr (l3 + (-1)))] (r) σ := ev_go f_Rk_placeIn_71 rfl
theorem f_Rk_placeIn_74 : fetch 47 74 = some (.goto (-59)) := by decide +kernel
theorem e_Rk_placeIn_74 (a0 a1 a2 a3 : AV) (σ : aM) (r : List AV)  : ev 47 74 [a0, a1, a2, a3] (r) σ = ev 47 15 [a0, a1, a2, a3] (r) σ := ev_go f_Rk_placeIn_74 rfl
theorem f_Rk_placeIn_77 : fetch 47 77 = some (.aload_n 0) := by decide +kernel
theorem e_Rk_placeIn_77 (a1 a2 a3 : AV) (σ : aM) (l0 : Option (Nat × Int)) (r : List AV)  : ev 47 77 [aQ l0, a1, a2, a3] (r) σ = ev 47 78 [aQ l0, a1, a2, a3] (aQ l0 :: r) σ := ev_go f_Rk_placeIn_77 rfl
theorem f_Rk_placeIn_78 : fetch 47 78 = some (.getfield 11) := by decide +kernel
theorem e_Rk_placeIn_78 (a0 a1 a2 a3 : AV) (σ : aM) (i : Int) (r : List AV)  : ev 47 78 [a0, a1, a2, a3] (aR 16 i :: r) σ = ev 47 81 [a0, a1, a2, a3] (aR 17 0 :: r) σ := ev_go f_Rk_placeIn_78 rfl
theorem f_Rk_placeIn_81 : fetch 47 81 = some (.iload_n 3) := by decide +kernel
theorem e_Rk_placeIn_81 (a0 a1 a2 : AV) (σ : aM) (l3 : Int) (r : List AV)  : ev 47 81 [a0, a1, a2, aI l3] (r) σ = ev 47 82 [a0, a1, a2, aI l3] (aI l3 :: r) σ := ev_go f_Rk_placeIn_81 rfl
theorem f_Rk_placeIn_82 : fetch 47 82 = some (.aload_n 1) := by decide +kernel
theorem e_Rk_placeIn_82 (a0 a2 a3 : AV) (σ : aM) (l1 : Option (Nat × Int)) (r : List AV)  : ev 47 82 [a0, aQ l1, a2, a3] (r) σ = ev 47 83 [a0, aQ l1, a2, a3] (aQ l1 :: r) σ := ev_go f_Rk_placeIn_82 rfl
theorem f_Rk_placeIn_83 : fetch 47 83 = some (.aastore) := by decide +kernel
theorem e_Rk_placeIn_83 (a0 a1 a2 a3 : AV) (σ : aM) (x : Int) (i i2 : Int) (r : List AV) (h : 0 ≤ x ∧ x < 60) : ev 47 83 [a0, a1, a2, a3] (aR 8 i2 :: aI x :: aR 17 i :: r) σ = ev 47 84 [a0, a1, a2, a3] (r) (uR σ x (some (8, i2))) := ev_cd f_Rk_placeIn_83 rfl ⟨rfl, rfl, h.1, by rw [aLen_n (by decide) rfl]; exact h.2⟩
theorem f_Rk_placeIn_84 : fetch 47 84 = some (.aload_n 0) := by decide +kernel
theorem e_Rk_placeIn_84 (a1 a2 a3 : AV) (σ : aM) (l0 : Option (Nat × Int)) (r : List AV)  : ev 47 84 [aQ l0, a1, a2, a3] (r) σ = ev 47 85 [aQ l0, a1, a2, a3] (aQ l0 :: r) σ := ev_go f_Rk_placeIn_84 rfl
theorem f_Rk_placeIn_85 : fetch 47 85 = some (.getfield 17) := by decide +kernel
theorem e_Rk_placeIn_85 (a0 a1 a2 a3 : AV) (σ : aM) (i : Int) (r : List AV)  : ev 47 85 [a0, a1, a2, a3] (aR 16 i :: r) σ = ev 47 88 [a0, a1, a2, a3] (aR 18 0 :: r) σ := ev_go f_Rk_placeIn_85 rfl
theorem f_Rk_placeIn_88 : fetch 47 88 = some (.iload_n 3) := by decide +kernel
theorem e_Rk_placeIn_88 (a0 a1 a2 : AV) (σ : aM) (l3 : Int) (r : List AV)  : ev 47 88 [a0, a1, a2, aI l3] (r) σ = ev 47 89 [a0, a1, a2, aI l3] (aI l3 :: r) σ := ev_go f_Rk_placeIn_88 rfl
theorem f_Rk_placeIn_89 : fetch 47 89 = some (.iload_n 2) := by decide +kernel
theorem e_Rk_placeIn_89 (a0 a1 a3 : AV) (σ : aM) (l2 : Int) (r : List AV)  : ev 47 89 [a0, a1, aI l2, a3] (r) σ = ev 47 90 [a0, a1, aI l2, a3] (aI l2 :: r) σ := ev_go f_Rk_placeIn_89 rfl
theorem f_Rk_placeIn_90 : fetch 47 90 = some (.iastore) := by decide +kernel
theorem e_Rk_placeIn_90 (a0 a1 a2 a3 : AV) (σ : aM) (x : Int) (i : Int) (v : Int) (r : List AV) (h : 0 ≤ x ∧ x < 60) : ev 47 90 [a0, a1, a2, a3] (aI v :: aI x :: aR 18 i :: r) σ = ev 47 91 [a0, a1, a2, a3] (r) (uI σ 18 i x v) := ev_st f_Rk_placeIn_90 rfl rfl (by decide) (by decide) rfl h
theorem f_Rk_placeIn_91 : fetch 47 91 = some (.aload_n 0) := by decide +kernel
theorem e_Rk_placeIn_91 (a1 a2 a3 : AV) (σ : aM) (l0 : Option (Nat × Int)) (r : List AV)  : ev 47 91 [aQ l0, a1, a2, a3] (r) σ = ev 47 92 [aQ l0, a1, a2, a3] (aQ l0 :: r) σ := ev_go f_Rk_placeIn_91 rfl
theorem f_Rk_placeIn_92 : fetch 47 92 = some (.dup) := by decide +kernel
theorem e_Rk_placeIn_92 (a0 a1 a2 a3 : AV) (σ : aM) (x : Option (Nat × Int)) (r : List AV)  : ev 47 92 [a0, a1, a2, a3] (aQ x :: r) σ = ev 47 93 [a0, a1, a2, a3] (aQ x :: aQ x :: r) σ := ev_go f_Rk_placeIn_92 rfl
theorem f_Rk_placeIn_93 : fetch 47 93 = some (.getfield 21) := by decide +kernel
theorem e_Rk_placeIn_93 (a0 a1 a2 a3 : AV) (σ : aM) (i : Int) (r : List AV)  : ev 47 93 [a0, a1, a2, a3] (aR 16 i :: r) σ = ev 47 96 [a0, a1, a2, a3] (aI (gI σ 16 i 2) :: r) σ := ev_go f_Rk_placeIn_93 rfl
theorem f_Rk_placeIn_96 : fetch 47 96 = some (.iconst 1) := by decide +kernel
theorem e_Rk_placeIn_96 (a0 a1 a2 a3 : AV) (σ : aM) (r : List AV)  : ev 47 96 [a0, a1, a2, a3] (r) σ = ev 47 97 [a0, a1, a2, a3] (aI 1 :: r) σ := ev_go f_Rk_placeIn_96 rfl
theorem f_Rk_placeIn_97 : fetch 47 97 = some (.iadd) := by decide +kernel
theorem e_Rk_placeIn_97 (a0 a1 a2 a3 : AV) (σ : aM) (x z : Int) (r : List AV)  : ev 47 97 [a0, a1, a2, a3] (aI z :: aI x :: r) σ = ev 47 98 [a0, a1, a2, a3] (aI (wr (x + z)) :: r) σ := ev_go f_Rk_placeIn_97 rfl
theorem f_Rk_placeIn_98 : fetch 47 98 = some (.putfield 21) := by decide +kernel
theorem e_Rk_placeIn_98 (a0 a1 a2 a3 : AV) (σ : aM) (i : Int) (x : Int) (r : List AV)  : ev 47 98 [a0, a1, a2, a3] (aI x :: aR 16 i :: r) σ = ev 47 101 [a0, a1, a2, a3] (r) (uI σ 16 i 2 x) := ev_go f_Rk_placeIn_98 rfl
theorem f_Rk_placeIn_101 : fetch 47 101 = some (.return_) := by decide +kernel
theorem e_Rk_placeIn_101 (a0 a1 a2 a3 : AV) (σ : aM)  : ev 47 101 [a0, a1, a2, a3] [] σ = some (none, σ) := ev_ret f_Rk_placeIn_101 rfl
theorem f_Rk_orderAt_0 : fetch 48 0 = some (.iload_n 1) := by decide +kernel
theorem e_Rk_orderAt_0 (a0 : AV) (σ : aM) (l1 : Int) (r : List AV)  : ev 48 0 [a0, aI l1] (r) σ = ev 48 1 [a0, aI l1] (aI l1 :: r) σ := ev_go f_Rk_orderAt_0 rfl
theorem f_Rk_orderAt_1 : fetch 48 1 = some (.ifCond .lt 20) := by decide +kernel
theorem e_Rk_orderAt_1 (a0 a1 : AV) (σ : aM) (x : Int) (r : List AV) : ev 48 1 [a0, a1] (aI x :: r) σ = if x < 0 then ev 48 21 [a0, a1] r σ else ev 48 4 [a0, a1] r σ := ev_br f_Rk_orderAt_1 rfl bc_lt
theorem f_Rk_orderAt_4 : fetch 48 4 = some (.iload_n 1) := by decide +kernel
theorem e_Rk_orderAt_4 (a0 : AV) (σ : aM) (l1 : Int) (r : List AV)  : ev 48 4 [a0, aI l1] (r) σ = ev 48 5 [a0, aI l1] (aI l1 :: r) σ := ev_go f_Rk_orderAt_4 rfl
theorem f_Rk_orderAt_5 : fetch 48 5 = some (.aload_n 0) := by decide +kernel
theorem e_Rk_orderAt_5 (a1 : AV) (σ : aM) (l0 : Option (Nat × Int)) (r : List AV)  : ev 48 5 [aQ l0, a1] (r) σ = ev 48 6 [aQ l0, a1] (aQ l0 :: r) σ := ev_go f_Rk_orderAt_5 rfl
theorem f_Rk_orderAt_6 : fetch 48 6 = some (.getfield 21) := by decide +kernel
theorem e_Rk_orderAt_6 (a0 a1 : AV) (σ : aM) (i : Int) (r : List AV)  : ev 48 6 [a0, a1] (aR 16 i :: r) σ = ev 48 9 [a0, a1] (aI (gI σ 16 i 2) :: r) σ := ev_go f_Rk_orderAt_6 rfl
theorem f_Rk_orderAt_9 : fetch 48 9 = some (.if_icmp .ge 12) := by decide +kernel
theorem e_Rk_orderAt_9 (a0 a1 : AV) (σ : aM) (x z : Int) (r : List AV) : ev 48 9 [a0, a1] (aI z :: aI x :: r) σ = if z ≤ x then ev 48 21 [a0, a1] r σ else ev 48 12 [a0, a1] r σ := ev_br f_Rk_orderAt_9 rfl bc_ge
theorem f_Rk_orderAt_12 : fetch 48 12 = some (.aload_n 0) := by decide +kernel
theorem e_Rk_orderAt_12 (a1 : AV) (σ : aM) (l0 : Option (Nat × Int)) (r : List AV)  : ev 48 12 [aQ l0, a1] (r) σ = ev 48 13 [aQ l0, a1] (aQ l0 :: r) σ := ev_go f_Rk_orderAt_12 rfl
theorem f_Rk_orderAt_13 : fetch 48 13 = some (.getfield 11) := by decide +kernel
theorem e_Rk_orderAt_13 (a0 a1 : AV) (σ : aM) (i : Int) (r : List AV)  : ev 48 13 [a0, a1] (aR 16 i :: r) σ = ev 48 16 [a0, a1] (aR 17 0 :: r) σ := ev_go f_Rk_orderAt_13 rfl
theorem f_Rk_orderAt_16 : fetch 48 16 = some (.iload_n 1) := by decide +kernel
theorem e_Rk_orderAt_16 (a0 : AV) (σ : aM) (l1 : Int) (r : List AV)  : ev 48 16 [a0, aI l1] (r) σ = ev 48 17 [a0, aI l1] (aI l1 :: r) σ := ev_go f_Rk_orderAt_16 rfl
theorem f_Rk_orderAt_17 : fetch 48 17 = some (.aaload) := by decide +kernel
theorem e_Rk_orderAt_17 (a0 a1 : AV) (σ : aM) (x : Int) (i : Int) (r : List AV) (h : 0 ≤ x ∧ x < 60) : ev 48 17 [a0, a1] (aI x :: aR 17 i :: r) σ = ev 48 18 [a0, a1] (aQ (gR σ x) :: r) σ := ev_cd f_Rk_orderAt_17 rfl ⟨by decide, by decide, h.1, by rw [aLen_n (by decide) rfl]; exact h.2⟩
theorem f_Rk_orderAt_18 : fetch 48 18 = some (.goto 4) := by decide +kernel
theorem e_Rk_orderAt_18 (a0 a1 : AV) (σ : aM) (r : List AV)  : ev 48 18 [a0, a1] (r) σ = ev 48 22 [a0, a1] (r) σ := ev_go f_Rk_orderAt_18 rfl
theorem f_Rk_orderAt_21 : fetch 48 21 = some (.aconst_null) := by decide +kernel
theorem e_Rk_orderAt_21 (a0 a1 : AV) (σ : aM) (r : List AV)  : ev 48 21 [a0, a1] (r) σ = ev 48 22 [a0, a1] (aN :: r) σ := ev_go f_Rk_orderAt_21 rfl
theorem f_Rk_orderAt_22 : fetch 48 22 = some (.areturn) := by decide +kernel
theorem e_Rk_orderAt_22 (a0 a1 : AV) (σ : aM) (x : Option (Nat × Int)) : ev 48 22 [a0, a1] [aQ x] σ = some ((some (aQ x)), σ) := ev_ret f_Rk_orderAt_22 rfl
theorem f_Rk_priceOfLevel_0 : fetch 49 0 = some (.iconst (-1)) := by decide +kernel
theorem e_Rk_priceOfLevel_0 (a0 a1 a2 a3 a4 : AV) (σ : aM) (r : List AV)  : ev 49 0 [a0, a1, a2, a3, a4] (r) σ = ev 49 1 [a0, a1, a2, a3, a4] (aI (-1) :: r) σ := ev_go f_Rk_priceOfLevel_0 rfl
theorem f_Rk_priceOfLevel_1 : fetch 49 1 = some (.istore_n 2) := by decide +kernel
theorem e_Rk_priceOfLevel_1 (a0 a2 a3 a4 : AV) (σ : aM) (x : Int) (l1 : Int) (r : List AV)  : ev 49 1 [a0, aI l1, a2, a3, a4] (aI x :: r) σ = ev 49 2 [a0, aI l1, aI x, a3, a4] (r) σ := ev_go f_Rk_priceOfLevel_1 rfl
theorem f_Rk_priceOfLevel_2 : fetch 49 2 = some (.iconst 0) := by decide +kernel
theorem e_Rk_priceOfLevel_2 (a0 a1 a2 a3 a4 : AV) (σ : aM) (r : List AV)  : ev 49 2 [a0, a1, a2, a3, a4] (r) σ = ev 49 3 [a0, a1, a2, a3, a4] (aI 0 :: r) σ := ev_go f_Rk_priceOfLevel_2 rfl
theorem f_Rk_priceOfLevel_3 : fetch 49 3 = some (.istore_n 3) := by decide +kernel
theorem e_Rk_priceOfLevel_3 (a0 a1 a3 a4 : AV) (σ : aM) (x : Int) (l2 : Int) (r : List AV)  : ev 49 3 [a0, a1, aI l2, a3, a4] (aI x :: r) σ = ev 49 4 [a0, a1, aI l2, aI x, a4] (r) σ := ev_go f_Rk_priceOfLevel_3 rfl
theorem f_Rk_priceOfLevel_4 : fetch 49 4 = some (.iconst 0) := by decide +kernel
theorem e_Rk_priceOfLevel_4 (a0 a1 a2 a3 a4 : AV) (σ : aM) (r : List AV)  : ev 49 4 [a0, a1, a2, a3, a4] (r) σ = ev 49 5 [a0, a1, a2, a3, a4] (aI 0 :: r) σ := ev_go f_Rk_priceOfLevel_4 rfl
theorem f_Rk_priceOfLevel_5 : fetch 49 5 = some (.istore 4) := by decide +kernel
theorem e_Rk_priceOfLevel_5 (a0 a1 a2 a4 : AV) (σ : aM) (x : Int) (l3 : Int) (r : List AV)  : ev 49 5 [a0, a1, a2, aI l3, a4] (aI x :: r) σ = ev 49 7 [a0, a1, a2, aI l3, aI x] (r) σ := ev_go f_Rk_priceOfLevel_5 rfl
theorem f_Rk_priceOfLevel_7 : fetch 49 7 = some (.iload 4) := by decide +kernel
theorem e_Rk_priceOfLevel_7 (a0 a1 a2 a3 : AV) (σ : aM) (l4 : Int) (r : List AV)  : ev 49 7 [a0, a1, a2, a3, aI l4] (r) σ = ev 49 9 [a0, a1, a2, a3, aI l4] (aI l4 :: r) σ := ev_go f_Rk_priceOfLevel_7 rfl
theorem f_Rk_priceOfLevel_9 : fetch 49 9 = some (.aload_n 0) := by decide +kernel
theorem e_Rk_priceOfLevel_9 (a1 a2 a3 a4 : AV) (σ : aM) (l0 : Option (Nat × Int)) (r : List AV)  : ev 49 9 [aQ l0, a1, a2, a3, a4] (r) σ = ev 49 10 [aQ l0, a1, a2, a3, a4] (aQ l0 :: r) σ := ev_go f_Rk_priceOfLevel_9 rfl
theorem f_Rk_priceOfLevel_10 : fetch 49 10 = some (.getfield 21) := by decide +kernel
theorem e_Rk_priceOfLevel_10 (a0 a1 a2 a3 a4 : AV) (σ : aM) (i : Int) (r : List AV)  : ev 49 10 [a0, a1, a2, a3, a4] (aR 16 i :: r) σ = ev 49 13 [a0, a1, a2, a3, a4] (aI (gI σ 16 i 2) :: r) σ := ev_go f_Rk_priceOfLevel_10 rfl
theorem f_Rk_priceOfLevel_13 : fetch 49 13 = some (.if_icmp .ge 38) := by decide +kernel
theorem e_Rk_priceOfLevel_13 (a0 a1 a2 a3 a4 : AV) (σ : aM) (x z : Int) (r : List AV) : ev 49 13 [a0, a1, a2, a3, a4] (aI z :: aI x :: r) σ = if z ≤ x then ev 49 51 [a0, a1, a2, a3, a4] r σ else ev 49 16 [a0, a1, a2, a3, a4] r σ := ev_br f_Rk_priceOfLevel_13 rfl bc_ge
theorem f_Rk_priceOfLevel_16 : fetch 49 16 = some (.aload_n 0) := by decide +kernel
theorem e_Rk_priceOfLevel_16 (a1 a2 a3 a4 : AV) (σ : aM) (l0 : Option (Nat × Int)) (r : List AV)  : ev 49 16 [aQ l0, a1, a2, a3, a4] (r) σ = ev 49 17 [aQ l0, a1, a2, a3, a4] (aQ l0 :: r) σ := ev_go f_Rk_priceOfLevel_16 rfl
theorem f_Rk_priceOfLevel_17 : fetch 49 17 = some (.getfield 17) := by decide +kernel
theorem e_Rk_priceOfLevel_17 (a0 a1 a2 a3 a4 : AV) (σ : aM) (i : Int) (r : List AV)  : ev 49 17 [a0, a1, a2, a3, a4] (aR 16 i :: r) σ = ev 49 20 [a0, a1, a2, a3, a4] (aR 18 0 :: r) σ := ev_go f_Rk_priceOfLevel_17 rfl
theorem f_Rk_priceOfLevel_20 : fetch 49 20 = some (.iload 4) := by decide +kernel
theorem e_Rk_priceOfLevel_20 (a0 a1 a2 a3 : AV) (σ : aM) (l4 : Int) (r : List AV)  : ev 49 20 [a0, a1, a2, a3, aI l4] (r) σ = ev 49 22 [a0, a1, a2, a3, aI l4] (aI l4 :: r) σ := ev_go f_Rk_priceOfLevel_20 rfl
theorem f_Rk_priceOfLevel_22 : fetch 49 22 = some (.iaload) := by decide +kernel
theorem e_Rk_priceOfLevel_22 (a0 a1 a2 a3 a4 : AV) (σ : aM) (x : Int) (i : Int) (r : List AV) (h : 0 ≤ x ∧ x < 60) : ev 49 22 [a0, a1, a2, a3, a4] (aI x :: aR 18 i :: r) σ = ev 49 23 [a0, a1, a2, a3, a4] (aI (gI σ 18 i x) :: r) σ := ev_ld (j := i) f_Rk_priceOfLevel_22 rfl rfl (by decide) rfl h
theorem f_Rk_priceOfLevel_23 : fetch 49 23 = some (.iload_n 3) := by decide +kernel
theorem e_Rk_priceOfLevel_23 (a0 a1 a2 a4 : AV) (σ : aM) (l3 : Int) (r : List AV)  : ev 49 23 [a0, a1, a2, aI l3, a4] (r) σ = ev 49 24 [a0, a1, a2, aI l3, a4] (aI l3 :: r) σ := ev_go f_Rk_priceOfLevel_23 rfl
theorem f_Rk_priceOfLevel_24 : fetch 49 24 = some (.if_icmp .eq 14) := by decide +kernel
theorem e_Rk_priceOfLevel_24 (a0 a1 a2 a3 a4 : AV) (σ : aM) (x z : Int) (r : List AV) : ev 49 24 [a0, a1, a2, a3, a4] (aI z :: aI x :: r) σ = if x = z then ev 49 38 [a0, a1, a2, a3, a4] r σ else ev 49 27 [a0, a1, a2, a3, a4] r σ := ev_br f_Rk_priceOfLevel_24 rfl bc_eq
theorem f_Rk_priceOfLevel_27 : fetch 49 27 = some (.aload_n 0) := by decide +kernel
theorem e_Rk_priceOfLevel_27 (a1 a2 a3 a4 : AV) (σ : aM) (l0 : Option (Nat × Int)) (r : List AV)  : ev 49 27 [aQ l0, a1, a2, a3, a4] (r) σ = ev 49 28 [aQ l0, a1, a2, a3, a4] (aQ l0 :: r) σ := ev_go f_Rk_priceOfLevel_27 rfl
theorem f_Rk_priceOfLevel_28 : fetch 49 28 = some (.getfield 17) := by decide +kernel
theorem e_Rk_priceOfLevel_28 (a0 a1 a2 a3 a4 : AV) (σ : aM) (i : Int) (r : List AV)  : ev 49 28 [a0, a1, a2, a3, a4] (aR 16 i :: r) σ = ev 49 31 [a0, a1, a2, a3, a4] (aR 18 0 :: r) σ := ev_go f_Rk_priceOfLevel_28 rfl
theorem f_Rk_priceOfLevel_31 : fetch 49 31 = some (.iload 4) := by decide +kernel
theorem e_Rk_priceOfLevel_31 (a0 a1 a2 a3 : AV) (σ : aM) (l4 : Int) (r : List AV)  : ev 49 31 [a0, a1, a2, a3, aI l4] (r) σ = ev 49 33 [a0, a1, a2, a3, aI l4] (aI l4 :: r) σ := ev_go f_Rk_priceOfLevel_31 rfl
theorem f_Rk_priceOfLevel_33 : fetch 49 33 = some (.iaload) := by decide +kernel
theorem e_Rk_priceOfLevel_33 (a0 a1 a2 a3 a4 : AV) (σ : aM) (x : Int) (i : Int) (r : List AV) (h : 0 ≤ x ∧ x < 60) : ev 49 33 [a0, a1, a2, a3, a4] (aI x :: aR 18 i :: r) σ = ev 49 34 [a0, a1, a2, a3, a4] (aI (gI σ 18 i x) :: r) σ := ev_ld (j := i) f_Rk_priceOfLevel_33 rfl rfl (by decide) rfl h
theorem f_Rk_priceOfLevel_34 : fetch 49 34 = some (.istore_n 3) := by decide +kernel
theorem e_Rk_priceOfLevel_34 (a0 a1 a3 a4 : AV) (σ : aM) (x : Int) (l2 : Int) (r : List AV)  : ev 49 34 [a0, a1, aI l2, a3, a4] (aI x :: r) σ = ev 49 35 [a0, a1, aI l2, aI x, a4] (r) σ := ev_go f_Rk_priceOfLevel_34 rfl
theorem f_Rk_priceOfLevel_35 : fetch 49 35 = some (.iinc 2 1) := by decide +kernel
theorem e_Rk_priceOfLevel_35 (a0 a3 a4 : AV) (σ : aM) (l2 : Int) (l1 : Int) (r : List AV)  : ev 49 35 [a0, aI l1, aI l2, a3, a4] (r) σ = ev 49 38 [a0, aI l1, aI (wr (l2 + 1)), a3, a4] (r) σ := ev_go f_Rk_priceOfLevel_35 rfl
theorem f_Rk_priceOfLevel_38 : fetch 49 38 = some (.iload_n 2) := by decide +kernel
theorem e_Rk_priceOfLevel_38 (a0 a1 a3 a4 : AV) (σ : aM) (l2 : Int) (r : List AV)  : ev 49 38 [a0, a1, aI l2, a3, a4] (r) σ = ev 49 39 [a0, a1, aI l2, a3, a4] (aI l2 :: r) σ := ev_go f_Rk_priceOfLevel_38 rfl
theorem f_Rk_priceOfLevel_39 : fetch 49 39 = some (.iload_n 1) := by decide +kernel
theorem e_Rk_priceOfLevel_39 (a0 a2 a3 a4 : AV) (σ : aM) (l1 : Int) (r : List AV)  : ev 49 39 [a0, aI l1, a2, a3, a4] (r) σ = ev 49 40 [a0, aI l1, a2, a3, a4] (aI l1 :: r) σ := ev_go f_Rk_priceOfLevel_39 rfl
theorem f_Rk_priceOfLevel_40 : fetch 49 40 = some (.if_icmp .ne 5) := by decide +kernel
theorem e_Rk_priceOfLevel_40 (a0 a1 a2 a3 a4 : AV) (σ : aM) (x z : Int) (r : List AV) : ev 49 40 [a0, a1, a2, a3, a4] (aI z :: aI x :: r) σ = if ¬ x = z then ev 49 45 [a0, a1, a2, a3, a4] r σ else ev 49 43 [a0, a1, a2, a3, a4] r σ := ev_br f_Rk_priceOfLevel_40 rfl bc_ne
theorem f_Rk_priceOfLevel_43 : fetch 49 43 = some (.iload_n 3) := by decide +kernel
theorem e_Rk_priceOfLevel_43 (a0 a1 a2 a4 : AV) (σ : aM) (l3 : Int) (r : List AV)  : ev 49 43 [a0, a1, a2, aI l3, a4] (r) σ = ev 49 44 [a0, a1, a2, aI l3, a4] (aI l3 :: r) σ := ev_go f_Rk_priceOfLevel_43 rfl
theorem f_Rk_priceOfLevel_44 : fetch 49 44 = some (.ireturn) := by decide +kernel
theorem e_Rk_priceOfLevel_44 (a0 a1 a2 a3 a4 : AV) (σ : aM) (x : Int) : ev 49 44 [a0, a1, a2, a3, a4] [aI x] σ = some ((some (aI x)), σ) := ev_ret f_Rk_priceOfLevel_44 rfl
theorem f_Rk_priceOfLevel_45 : fetch 49 45 = some (.iinc 4 1) := by decide +kernel
theorem e_Rk_priceOfLevel_45 (a0 a1 a2 : AV) (σ : aM) (l4 : Int) (l3 : Int) (r : List AV)  : ev 49 45 [a0, a1, a2, aI l3, aI l4] (r) σ = ev 49 48 [a0, a1, a2, aI l3, aI (wr (l4 + 1))] (r) σ := ev_go f_Rk_priceOfLevel_45 rfl
theorem f_Rk_priceOfLevel_48 : fetch 49 48 = some (.goto (-41)) := by decide +kernel
theorem e_Rk_priceOfLevel_48 (a0 a1 a2 a3 a4 : AV) (σ : aM) (r : List AV)  : ev 49 48 [a0, a1, a2, a3, a4] (r) σ = ev 49 7 [a0, a1, a2, a3, a4] (r) σ := ev_go f_Rk_priceOfLevel_48 rfl
theorem f_Rk_priceOfLevel_51 : fetch 49 51 = some (.iconst 0) := by decide +kernel
theorem e_Rk_priceOfLevel_51 (a0 a1 a2 a3 a4 : AV) (σ : aM) (r : List AV)  : ev 49 51 [a0, a1, a2, a3, a4] (r) σ = ev 49 52 [a0, a1, a2, a3, a4] (aI 0 :: r) σ := ev_go f_Rk_priceOfLevel_51 rfl
theorem f_Rk_priceOfLevel_52 : fetch 49 52 = some (.ireturn) := by decide +kernel
theorem e_Rk_priceOfLevel_52 (a0 a1 a2 a3 a4 : AV) (σ : aM) (x : Int) : ev 49 52 [a0, a1, a2, a3, a4] [aI x] σ = some ((some (aI x)), σ) := ev_ret f_Rk_priceOfLevel_52 rfl
theorem f_Rk_visibleAt_0 : fetch 50 0 = some (.iconst 0) := by decide +kernel
theorem e_Rk_visibleAt_0 (a0 a1 a2 a3 : AV) (σ : aM) (r : List AV)  : ev 50 0 [a0, a1, a2, a3] (r) σ = ev 50 1 [a0, a1, a2, a3] (aI 0 :: r) σ := ev_go f_Rk_visibleAt_0 rfl
theorem f_Rk_visibleAt_1 : fetch 50 1 = some (.istore_n 2) := by decide +kernel
theorem e_Rk_visibleAt_1 (a0 a2 a3 : AV) (σ : aM) (x : Int) (l1 : Int) (r : List AV)  : ev 50 1 [a0, aI l1, a2, a3] (aI x :: r) σ = ev 50 2 [a0, aI l1, aI x, a3] (r) σ := ev_go f_Rk_visibleAt_1 rfl
theorem f_Rk_visibleAt_2 : fetch 50 2 = some (.iconst 0) := by decide +kernel
theorem e_Rk_visibleAt_2 (a0 a1 a2 a3 : AV) (σ : aM) (r : List AV)  : ev 50 2 [a0, a1, a2, a3] (r) σ = ev 50 3 [a0, a1, a2, a3] (aI 0 :: r) σ := ev_go f_Rk_visibleAt_2 rfl
theorem f_Rk_visibleAt_3 : fetch 50 3 = some (.istore_n 3) := by decide +kernel
theorem e_Rk_visibleAt_3 (a0 a1 a3 : AV) (σ : aM) (x : Int) (l2 : Int) (r : List AV)  : ev 50 3 [a0, a1, aI l2, a3] (aI x :: r) σ = ev 50 4 [a0, a1, aI l2, aI x] (r) σ := ev_go f_Rk_visibleAt_3 rfl
theorem f_Rk_visibleAt_4 : fetch 50 4 = some (.iload_n 3) := by decide +kernel
theorem e_Rk_visibleAt_4 (a0 a1 a2 : AV) (σ : aM) (l3 : Int) (r : List AV)  : ev 50 4 [a0, a1, a2, aI l3] (r) σ = ev 50 5 [a0, a1, a2, aI l3] (aI l3 :: r) σ := ev_go f_Rk_visibleAt_4 rfl
theorem f_Rk_visibleAt_5 : fetch 50 5 = some (.aload_n 0) := by decide +kernel
theorem e_Rk_visibleAt_5 (a1 a2 a3 : AV) (σ : aM) (l0 : Option (Nat × Int)) (r : List AV)  : ev 50 5 [aQ l0, a1, a2, a3] (r) σ = ev 50 6 [aQ l0, a1, a2, a3] (aQ l0 :: r) σ := ev_go f_Rk_visibleAt_5 rfl
theorem f_Rk_visibleAt_6 : fetch 50 6 = some (.getfield 21) := by decide +kernel
theorem e_Rk_visibleAt_6 (a0 a1 a2 a3 : AV) (σ : aM) (i : Int) (r : List AV)  : ev 50 6 [a0, a1, a2, a3] (aR 16 i :: r) σ = ev 50 9 [a0, a1, a2, a3] (aI (gI σ 16 i 2) :: r) σ := ev_go f_Rk_visibleAt_6 rfl
theorem f_Rk_visibleAt_9 : fetch 50 9 = some (.if_icmp .ge 31) := by decide +kernel
theorem e_Rk_visibleAt_9 (a0 a1 a2 a3 : AV) (σ : aM) (x z : Int) (r : List AV) : ev 50 9 [a0, a1, a2, a3] (aI z :: aI x :: r) σ = if z ≤ x then ev 50 40 [a0, a1, a2, a3] r σ else ev 50 12 [a0, a1, a2, a3] r σ := ev_br f_Rk_visibleAt_9 rfl bc_ge
theorem f_Rk_visibleAt_12 : fetch 50 12 = some (.aload_n 0) := by decide +kernel
theorem e_Rk_visibleAt_12 (a1 a2 a3 : AV) (σ : aM) (l0 : Option (Nat × Int)) (r : List AV)  : ev 50 12 [aQ l0, a1, a2, a3] (r) σ = ev 50 13 [aQ l0, a1, a2, a3] (aQ l0 :: r) σ := ev_go f_Rk_visibleAt_12 rfl
theorem f_Rk_visibleAt_13 : fetch 50 13 = some (.getfield 17) := by decide +kernel
theorem e_Rk_visibleAt_13 (a0 a1 a2 a3 : AV) (σ : aM) (i : Int) (r : List AV)  : ev 50 13 [a0, a1, a2, a3] (aR 16 i :: r) σ = ev 50 16 [a0, a1, a2, a3] (aR 18 0 :: r) σ := ev_go f_Rk_visibleAt_13 rfl
theorem f_Rk_visibleAt_16 : fetch 50 16 = some (.iload_n 3) := by decide +kernel
theorem e_Rk_visibleAt_16 (a0 a1 a2 : AV) (σ : aM) (l3 : Int) (r : List AV)  : ev 50 16 [a0, a1, a2, aI l3] (r) σ = ev 50 17 [a0, a1, a2, aI l3] (aI l3 :: r) σ := ev_go f_Rk_visibleAt_16 rfl
theorem f_Rk_visibleAt_17 : fetch 50 17 = some (.iaload) := by decide +kernel
theorem e_Rk_visibleAt_17 (a0 a1 a2 a3 : AV) (σ : aM) (x : Int) (i : Int) (r : List AV) (h : 0 ≤ x ∧ x < 60) : ev 50 17 [a0, a1, a2, a3] (aI x :: aR 18 i :: r) σ = ev 50 18 [a0, a1, a2, a3] (aI (gI σ 18 i x) :: r) σ := ev_ld (j := i) f_Rk_visibleAt_17 rfl rfl (by decide) rfl h
theorem f_Rk_visibleAt_18 : fetch 50 18 = some (.iload_n 1) := by decide +kernel
theorem e_Rk_visibleAt_18 (a0 a2 a3 : AV) (σ : aM) (l1 : Int) (r : List AV)  : ev 50 18 [a0, aI l1, a2, a3] (r) σ = ev 50 19 [a0, aI l1, a2, a3] (aI l1 :: r) σ := ev_go f_Rk_visibleAt_18 rfl
theorem f_Rk_visibleAt_19 : fetch 50 19 = some (.if_icmp .ne 15) := by decide +kernel
theorem e_Rk_visibleAt_19 (a0 a1 a2 a3 : AV) (σ : aM) (x z : Int) (r : List AV) : ev 50 19 [a0, a1, a2, a3] (aI z :: aI x :: r) σ = if ¬ x = z then ev 50 34 [a0, a1, a2, a3] r σ else ev 50 22 [a0, a1, a2, a3] r σ := ev_br f_Rk_visibleAt_19 rfl bc_ne
theorem f_Rk_visibleAt_22 : fetch 50 22 = some (.iload_n 2) := by decide +kernel
theorem e_Rk_visibleAt_22 (a0 a1 a3 : AV) (σ : aM) (l2 : Int) (r : List AV)  : ev 50 22 [a0, a1, aI l2, a3] (r) σ = ev 50 23 [a0, a1, aI l2, a3] (aI l2 :: r) σ := ev_go f_Rk_visibleAt_22 rfl
theorem f_Rk_visibleAt_23 : fetch 50 23 = some (.aload_n 0) := by decide +kernel
theorem e_Rk_visibleAt_23 (a1 a2 a3 : AV) (σ : aM) (l0 : Option (Nat × Int)) (r : List AV)  : ev 50 23 [aQ l0, a1, a2, a3] (r) σ = ev 50 24 [aQ l0, a1, a2, a3] (aQ l0 :: r) σ := ev_go f_Rk_visibleAt_23 rfl
theorem f_Rk_visibleAt_24 : fetch 50 24 = some (.getfield 11) := by decide +kernel
theorem e_Rk_visibleAt_24 (a0 a1 a2 a3 : AV) (σ : aM) (i : Int) (r : List AV)  : ev 50 24 [a0, a1, a2, a3] (aR 16 i :: r) σ = ev 50 27 [a0, a1, a2, a3] (aR 17 0 :: r) σ := ev_go f_Rk_visibleAt_24 rfl
theorem f_Rk_visibleAt_27 : fetch 50 27 = some (.iload_n 3) := by decide +kernel
theorem e_Rk_visibleAt_27 (a0 a1 a2 : AV) (σ : aM) (l3 : Int) (r : List AV)  : ev 50 27 [a0, a1, a2, aI l3] (r) σ = ev 50 28 [a0, a1, a2, aI l3] (aI l3 :: r) σ := ev_go f_Rk_visibleAt_27 rfl
theorem f_Rk_visibleAt_28 : fetch 50 28 = some (.aaload) := by decide +kernel
theorem e_Rk_visibleAt_28 (a0 a1 a2 a3 : AV) (σ : aM) (x : Int) (i : Int) (r : List AV) (h : 0 ≤ x ∧ x < 60) : ev 50 28 [a0, a1, a2, a3] (aI x :: aR 17 i :: r) σ = ev 50 29 [a0, a1, a2, a3] (aQ (gR σ x) :: r) σ := ev_cd f_Rk_visibleAt_28 rfl ⟨by decide, by decide, h.1, by rw [aLen_n (by decide) rfl]; exact h.2⟩
theorem f_Rk_visibleAt_29 : fetch 50 29 = some (.invokevirtual 52) := by decide +kernel
theorem e_Rk_visibleAt_29 (a0 a1 a2 a3 : AV) (σ : aM) (s0 : Int) (s1 : Int) : ev 50 29 [a0, a1, a2, a3] [aR 8 s1, aI s0] σ = evK 50 32 [a0, a1, a2, a3] [aI s0] (ev 39 0 [aR 8 s1] [] σ) := ev_call f_Rk_visibleAt_29 rfl rfl
theorem f_Rk_visibleAt_32 : fetch 50 32 = some (.iadd) := by decide +kernel
theorem e_Rk_visibleAt_32 (a0 a1 a2 a3 : AV) (σ : aM) (x z : Int) (r : List AV)  : ev 50 32 [a0, a1, a2, a3] (aI z :: aI x :: r) σ = ev 50 33 [a0, a1, a2, a3] (aI (wr (x + z)) :: r) σ := ev_go f_Rk_visibleAt_32 rfl
theorem f_Rk_visibleAt_33 : fetch 50 33 = some (.istore_n 2) := by decide +kernel
theorem e_Rk_visibleAt_33 (a0 a2 a3 : AV) (σ : aM) (x : Int) (l1 : Int) (r : List AV)  : ev 50 33 [a0, aI l1, a2, a3] (aI x :: r) σ = ev 50 34 [a0, aI l1, aI x, a3] (r) σ := ev_go f_Rk_visibleAt_33 rfl
theorem f_Rk_visibleAt_34 : fetch 50 34 = some (.iinc 3 1) := by decide +kernel
theorem e_Rk_visibleAt_34 (a0 a1 : AV) (σ : aM) (l3 : Int) (l2 : Int) (r : List AV)  : ev 50 34 [a0, a1, aI l2, aI l3] (r) σ = ev 50 37 [a0, a1, aI l2, aI (wr (l3 + 1))] (r) σ := ev_go f_Rk_visibleAt_34 rfl
theorem f_Rk_visibleAt_37 : fetch 50 37 = some (.goto (-33)) := by decide +kernel
theorem e_Rk_visibleAt_37 (a0 a1 a2 a3 : AV) (σ : aM) (r : List AV)  : ev 50 37 [a0, a1, a2, a3] (r) σ = ev 50 4 [a0, a1, a2, a3] (r) σ := ev_go f_Rk_visibleAt_37 rfl
theorem f_Rk_visibleAt_40 : fetch 50 40 = some (.iload_n 2) := by decide +kernel
theorem e_Rk_visibleAt_40 (a0 a1 a3 : AV) (σ : aM) (l2 : Int) (r : List AV)  : ev 50 40 [a0, a1, aI l2, a3] (r) σ = ev 50 41 [a0, a1, aI l2, a3] (aI l2 :: r) σ := ev_go f_Rk_visibleAt_40 rfl
theorem f_Rk_visibleAt_41 : fetch 50 41 = some (.ireturn) := by decide +kernel
theorem e_Rk_visibleAt_41 (a0 a1 a2 a3 : AV) (σ : aM) (x : Int) : ev 50 41 [a0, a1, a2, a3] [aI x] σ = some ((some (aI x)), σ) := ev_ret f_Rk_visibleAt_41 rfl
theorem f_Rk_visibleAhead_0 : fetch 51 0 = some (.iconst 0) := by decide +kernel
theorem e_Rk_visibleAhead_0 (a0 a1 a2 a3 : AV) (σ : aM) (r : List AV)  : ev 51 0 [a0, a1, a2, a3] (r) σ = ev 51 1 [a0, a1, a2, a3] (aI 0 :: r) σ := ev_go f_Rk_visibleAhead_0 rfl
theorem f_Rk_visibleAhead_1 : fetch 51 1 = some (.istore_n 2) := by decide +kernel
theorem e_Rk_visibleAhead_1 (a0 a2 a3 : AV) (σ : aM) (x : Int) (l1 : Option (Nat × Int)) (r : List AV)  : ev 51 1 [a0, aQ l1, a2, a3] (aI x :: r) σ = ev 51 2 [a0, aQ l1, aI x, a3] (r) σ := ev_go f_Rk_visibleAhead_1 rfl
theorem f_Rk_visibleAhead_2 : fetch 51 2 = some (.iconst 0) := by decide +kernel
theorem e_Rk_visibleAhead_2 (a0 a1 a2 a3 : AV) (σ : aM) (r : List AV)  : ev 51 2 [a0, a1, a2, a3] (r) σ = ev 51 3 [a0, a1, a2, a3] (aI 0 :: r) σ := ev_go f_Rk_visibleAhead_2 rfl
theorem f_Rk_visibleAhead_3 : fetch 51 3 = some (.istore_n 3) := by decide +kernel
theorem e_Rk_visibleAhead_3 (a0 a1 a3 : AV) (σ : aM) (x : Int) (l2 : Int) (r : List AV)  : ev 51 3 [a0, a1, aI l2, a3] (aI x :: r) σ = ev 51 4 [a0, a1, aI l2, aI x] (r) σ := ev_go f_Rk_visibleAhead_3 rfl
theorem f_Rk_visibleAhead_4 : fetch 51 4 = some (.iload_n 3) := by decide +kernel
theorem e_Rk_visibleAhead_4 (a0 a1 a2 : AV) (σ : aM) (l3 : Int) (r : List AV)  : ev 51 4 [a0, a1, a2, aI l3] (r) σ = ev 51 5 [a0, a1, a2, aI l3] (aI l3 :: r) σ := ev_go f_Rk_visibleAhead_4 rfl
theorem f_Rk_visibleAhead_5 : fetch 51 5 = some (.aload_n 0) := by decide +kernel
theorem e_Rk_visibleAhead_5 (a1 a2 a3 : AV) (σ : aM) (l0 : Option (Nat × Int)) (r : List AV)  : ev 51 5 [aQ l0, a1, a2, a3] (r) σ = ev 51 6 [aQ l0, a1, a2, a3] (aQ l0 :: r) σ := ev_go f_Rk_visibleAhead_5 rfl
theorem f_Rk_visibleAhead_6 : fetch 51 6 = some (.getfield 21) := by decide +kernel
theorem e_Rk_visibleAhead_6 (a0 a1 a2 a3 : AV) (σ : aM) (i : Int) (r : List AV)  : ev 51 6 [a0, a1, a2, a3] (aR 16 i :: r) σ = ev 51 9 [a0, a1, a2, a3] (aI (gI σ 16 i 2) :: r) σ := ev_go f_Rk_visibleAhead_6 rfl
theorem f_Rk_visibleAhead_9 : fetch 51 9 = some (.if_icmp .ge 33) := by decide +kernel
theorem e_Rk_visibleAhead_9 (a0 a1 a2 a3 : AV) (σ : aM) (x z : Int) (r : List AV) : ev 51 9 [a0, a1, a2, a3] (aI z :: aI x :: r) σ = if z ≤ x then ev 51 42 [a0, a1, a2, a3] r σ else ev 51 12 [a0, a1, a2, a3] r σ := ev_br f_Rk_visibleAhead_9 rfl bc_ge
theorem f_Rk_visibleAhead_12 : fetch 51 12 = some (.aload_n 0) := by decide +kernel
theorem e_Rk_visibleAhead_12 (a1 a2 a3 : AV) (σ : aM) (l0 : Option (Nat × Int)) (r : List AV)  : ev 51 12 [aQ l0, a1, a2, a3] (r) σ = ev 51 13 [aQ l0, a1, a2, a3] (aQ l0 :: r) σ := ev_go f_Rk_visibleAhead_12 rfl
theorem f_Rk_visibleAhead_13 : fetch 51 13 = some (.getfield 11) := by decide +kernel
theorem e_Rk_visibleAhead_13 (a0 a1 a2 a3 : AV) (σ : aM) (i : Int) (r : List AV)  : ev 51 13 [a0, a1, a2, a3] (aR 16 i :: r) σ = ev 51 16 [a0, a1, a2, a3] (aR 17 0 :: r) σ := ev_go f_Rk_visibleAhead_13 rfl
theorem f_Rk_visibleAhead_16 : fetch 51 16 = some (.iload_n 3) := by decide +kernel
theorem e_Rk_visibleAhead_16 (a0 a1 a2 : AV) (σ : aM) (l3 : Int) (r : List AV)  : ev 51 16 [a0, a1, a2, aI l3] (r) σ = ev 51 17 [a0, a1, a2, aI l3] (aI l3 :: r) σ := ev_go f_Rk_visibleAhead_16 rfl
theorem f_Rk_visibleAhead_17 : fetch 51 17 = some (.aaload) := by decide +kernel
theorem e_Rk_visibleAhead_17 (a0 a1 a2 a3 : AV) (σ : aM) (x : Int) (i : Int) (r : List AV) (h : 0 ≤ x ∧ x < 60) : ev 51 17 [a0, a1, a2, a3] (aI x :: aR 17 i :: r) σ = ev 51 18 [a0, a1, a2, a3] (aQ (gR σ x) :: r) σ := ev_cd f_Rk_visibleAhead_17 rfl ⟨by decide, by decide, h.1, by rw [aLen_n (by decide) rfl]; exact h.2⟩
theorem f_Rk_visibleAhead_18 : fetch 51 18 = some (.aload_n 1) := by decide +kernel
theorem e_Rk_visibleAhead_18 (a0 a2 a3 : AV) (σ : aM) (l1 : Option (Nat × Int)) (r : List AV)  : ev 51 18 [a0, aQ l1, a2, a3] (r) σ = ev 51 19 [a0, aQ l1, a2, a3] (aQ l1 :: r) σ := ev_go f_Rk_visibleAhead_18 rfl
theorem f_Rk_visibleAhead_19 : fetch 51 19 = some (.if_acmp .ne 5) := by decide +kernel
theorem e_Rk_visibleAhead_19 (a0 a1 a2 a3 : AV) (σ : aM) (q1 q2 : Option (Nat × Int)) (r : List AV) : ev 51 19 [a0, a1, a2, a3] (aQ q2 :: aQ q1 :: r) σ = if ¬ q1 = q2 then ev 51 24 [a0, a1, a2, a3] r σ else ev 51 22 [a0, a1, a2, a3] r σ := ev_br f_Rk_visibleAhead_19 rfl bc_qn
theorem f_Rk_visibleAhead_22 : fetch 51 22 = some (.iload_n 2) := by decide +kernel
theorem e_Rk_visibleAhead_22 (a0 a1 a3 : AV) (σ : aM) (l2 : Int) (r : List AV)  : ev 51 22 [a0, a1, aI l2, a3] (r) σ = ev 51 23 [a0, a1, aI l2, a3] (aI l2 :: r) σ := ev_go f_Rk_visibleAhead_22 rfl
theorem f_Rk_visibleAhead_23 : fetch 51 23 = some (.ireturn) := by decide +kernel
theorem e_Rk_visibleAhead_23 (a0 a1 a2 a3 : AV) (σ : aM) (x : Int) : ev 51 23 [a0, a1, a2, a3] [aI x] σ = some ((some (aI x)), σ) := ev_ret f_Rk_visibleAhead_23 rfl
theorem f_Rk_visibleAhead_24 : fetch 51 24 = some (.iload_n 2) := by decide +kernel
theorem e_Rk_visibleAhead_24 (a0 a1 a3 : AV) (σ : aM) (l2 : Int) (r : List AV)  : ev 51 24 [a0, a1, aI l2, a3] (r) σ = ev 51 25 [a0, a1, aI l2, a3] (aI l2 :: r) σ := ev_go f_Rk_visibleAhead_24 rfl
theorem f_Rk_visibleAhead_25 : fetch 51 25 = some (.aload_n 0) := by decide +kernel
theorem e_Rk_visibleAhead_25 (a1 a2 a3 : AV) (σ : aM) (l0 : Option (Nat × Int)) (r : List AV)  : ev 51 25 [aQ l0, a1, a2, a3] (r) σ = ev 51 26 [aQ l0, a1, a2, a3] (aQ l0 :: r) σ := ev_go f_Rk_visibleAhead_25 rfl
theorem f_Rk_visibleAhead_26 : fetch 51 26 = some (.getfield 11) := by decide +kernel
theorem e_Rk_visibleAhead_26 (a0 a1 a2 a3 : AV) (σ : aM) (i : Int) (r : List AV)  : ev 51 26 [a0, a1, a2, a3] (aR 16 i :: r) σ = ev 51 29 [a0, a1, a2, a3] (aR 17 0 :: r) σ := ev_go f_Rk_visibleAhead_26 rfl
theorem f_Rk_visibleAhead_29 : fetch 51 29 = some (.iload_n 3) := by decide +kernel
theorem e_Rk_visibleAhead_29 (a0 a1 a2 : AV) (σ : aM) (l3 : Int) (r : List AV)  : ev 51 29 [a0, a1, a2, aI l3] (r) σ = ev 51 30 [a0, a1, a2, aI l3] (aI l3 :: r) σ := ev_go f_Rk_visibleAhead_29 rfl
theorem f_Rk_visibleAhead_30 : fetch 51 30 = some (.aaload) := by decide +kernel
theorem e_Rk_visibleAhead_30 (a0 a1 a2 a3 : AV) (σ : aM) (x : Int) (i : Int) (r : List AV) (h : 0 ≤ x ∧ x < 60) : ev 51 30 [a0, a1, a2, a3] (aI x :: aR 17 i :: r) σ = ev 51 31 [a0, a1, a2, a3] (aQ (gR σ x) :: r) σ := ev_cd f_Rk_visibleAhead_30 rfl ⟨by decide, by decide, h.1, by rw [aLen_n (by decide) rfl]; exact h.2⟩
theorem f_Rk_visibleAhead_31 : fetch 51 31 = some (.invokevirtual 52) := by decide +kernel
theorem e_Rk_visibleAhead_31 (a0 a1 a2 a3 : AV) (σ : aM) (s0 : Int) (s1 : Int) : ev 51 31 [a0, a1, a2, a3] [aR 8 s1, aI s0] σ = evK 51 34 [a0, a1, a2, a3] [aI s0] (ev 39 0 [aR 8 s1] [] σ) := ev_call f_Rk_visibleAhead_31 rfl rfl
theorem f_Rk_visibleAhead_34 : fetch 51 34 = some (.iadd) := by decide +kernel
theorem e_Rk_visibleAhead_34 (a0 a1 a2 a3 : AV) (σ : aM) (x z : Int) (r : List AV)  : ev 51 34 [a0, a1, a2, a3] (aI z :: aI x :: r) σ = ev 51 35 [a0, a1, a2, a3] (aI (wr (x + z)) :: r) σ := ev_go f_Rk_visibleAhead_34 rfl
theorem f_Rk_visibleAhead_35 : fetch 51 35 = some (.istore_n 2) := by decide +kernel
theorem e_Rk_visibleAhead_35 (a0 a2 a3 : AV) (σ : aM) (x : Int) (l1 : Option (Nat × Int)) (r : List AV)  : ev 51 35 [a0, aQ l1, a2, a3] (aI x :: r) σ = ev 51 36 [a0, aQ l1, aI x, a3] (r) σ := ev_go f_Rk_visibleAhead_35 rfl
theorem f_Rk_visibleAhead_36 : fetch 51 36 = some (.iinc 3 1) := by decide +kernel
theorem e_Rk_visibleAhead_36 (a0 a1 : AV) (σ : aM) (l3 : Int) (l2 : Int) (r : List AV)  : ev 51 36 [a0, a1, aI l2, aI l3] (r) σ = ev 51 39 [a0, a1, aI l2, aI (wr (l3 + 1))] (r) σ := ev_go f_Rk_visibleAhead_36 rfl
theorem f_Rk_visibleAhead_39 : fetch 51 39 = some (.goto (-35)) := by decide +kernel
theorem e_Rk_visibleAhead_39 (a0 a1 a2 a3 : AV) (σ : aM) (r : List AV)  : ev 51 39 [a0, a1, a2, a3] (r) σ = ev 51 4 [a0, a1, a2, a3] (r) σ := ev_go f_Rk_visibleAhead_39 rfl
theorem f_Rk_visibleAhead_42 : fetch 51 42 = some (.iconst (-1)) := by decide +kernel
theorem e_Rk_visibleAhead_42 (a0 a1 a2 a3 : AV) (σ : aM) (r : List AV)  : ev 51 42 [a0, a1, a2, a3] (r) σ = ev 51 43 [a0, a1, a2, a3] (aI (-1) :: r) σ := ev_go f_Rk_visibleAhead_42 rfl
theorem f_Rk_visibleAhead_43 : fetch 51 43 = some (.ireturn) := by decide +kernel
theorem e_Rk_visibleAhead_43 (a0 a1 a2 a3 : AV) (σ : aM) (x : Int) : ev 51 43 [a0, a1, a2, a3] [aI x] σ = some ((some (aI x)), σ) := ev_ret f_Rk_visibleAhead_43 rfl
theorem f_Rk_costOf_0 : fetch 52 0 = some (.iload_n 1) := by decide +kernel
theorem e_Rk_costOf_0 (a0 a2 a3 a4 a5 : AV) (σ : aM) (l1 : Int) (r : List AV)  : ev 52 0 [a0, aI l1, a2, a3, a4, a5] (r) σ = ev 52 1 [a0, aI l1, a2, a3, a4, a5] (aI l1 :: r) σ := ev_go f_Rk_costOf_0 rfl
theorem f_Rk_costOf_1 : fetch 52 1 = some (.istore_n 2) := by decide +kernel
theorem e_Rk_costOf_1 (a0 a2 a3 a4 a5 : AV) (σ : aM) (x : Int) (l1 : Int) (r : List AV)  : ev 52 1 [a0, aI l1, a2, a3, a4, a5] (aI x :: r) σ = ev 52 2 [a0, aI l1, aI x, a3, a4, a5] (r) σ := ev_go f_Rk_costOf_1 rfl
theorem f_Rk_costOf_2 : fetch 52 2 = some (.iconst 0) := by decide +kernel
theorem e_Rk_costOf_2 (a0 a1 a2 a3 a4 a5 : AV) (σ : aM) (r : List AV)  : ev 52 2 [a0, a1, a2, a3, a4, a5] (r) σ = ev 52 3 [a0, a1, a2, a3, a4, a5] (aI 0 :: r) σ := ev_go f_Rk_costOf_2 rfl
theorem f_Rk_costOf_3 : fetch 52 3 = some (.istore_n 3) := by decide +kernel
theorem e_Rk_costOf_3 (a0 a1 a3 a4 a5 : AV) (σ : aM) (x : Int) (l2 : Int) (r : List AV)  : ev 52 3 [a0, a1, aI l2, a3, a4, a5] (aI x :: r) σ = ev 52 4 [a0, a1, aI l2, aI x, a4, a5] (r) σ := ev_go f_Rk_costOf_3 rfl
theorem f_Rk_costOf_4 : fetch 52 4 = some (.iconst 0) := by decide +kernel
theorem e_Rk_costOf_4 (a0 a1 a2 a3 a4 a5 : AV) (σ : aM) (r : List AV)  : ev 52 4 [a0, a1, a2, a3, a4, a5] (r) σ = ev 52 5 [a0, a1, a2, a3, a4, a5] (aI 0 :: r) σ := ev_go f_Rk_costOf_4 rfl
theorem f_Rk_costOf_5 : fetch 52 5 = some (.istore 4) := by decide +kernel
theorem e_Rk_costOf_5 (a0 a1 a2 a4 a5 : AV) (σ : aM) (x : Int) (l3 : Int) (r : List AV)  : ev 52 5 [a0, a1, a2, aI l3, a4, a5] (aI x :: r) σ = ev 52 7 [a0, a1, a2, aI l3, aI x, a5] (r) σ := ev_go f_Rk_costOf_5 rfl
theorem f_Rk_costOf_7 : fetch 52 7 = some (.iload 4) := by decide +kernel
theorem e_Rk_costOf_7 (a0 a1 a2 a3 a5 : AV) (σ : aM) (l4 : Int) (r : List AV)  : ev 52 7 [a0, a1, a2, a3, aI l4, a5] (r) σ = ev 52 9 [a0, a1, a2, a3, aI l4, a5] (aI l4 :: r) σ := ev_go f_Rk_costOf_7 rfl
theorem f_Rk_costOf_9 : fetch 52 9 = some (.aload_n 0) := by decide +kernel
theorem e_Rk_costOf_9 (a1 a2 a3 a4 a5 : AV) (σ : aM) (l0 : Option (Nat × Int)) (r : List AV)  : ev 52 9 [aQ l0, a1, a2, a3, a4, a5] (r) σ = ev 52 10 [aQ l0, a1, a2, a3, a4, a5] (aQ l0 :: r) σ := ev_go f_Rk_costOf_9 rfl
theorem f_Rk_costOf_10 : fetch 52 10 = some (.getfield 21) := by decide +kernel
theorem e_Rk_costOf_10 (a0 a1 a2 a3 a4 a5 : AV) (σ : aM) (i : Int) (r : List AV)  : ev 52 10 [a0, a1, a2, a3, a4, a5] (aR 16 i :: r) σ = ev 52 13 [a0, a1, a2, a3, a4, a5] (aI (gI σ 16 i 2) :: r) σ := ev_go f_Rk_costOf_10 rfl
theorem f_Rk_costOf_13 : fetch 52 13 = some (.if_icmp .ge 47) := by decide +kernel
theorem e_Rk_costOf_13 (a0 a1 a2 a3 a4 a5 : AV) (σ : aM) (x z : Int) (r : List AV) : ev 52 13 [a0, a1, a2, a3, a4, a5] (aI z :: aI x :: r) σ = if z ≤ x then ev 52 60 [a0, a1, a2, a3, a4, a5] r σ else ev 52 16 [a0, a1, a2, a3, a4, a5] r σ := ev_br f_Rk_costOf_13 rfl bc_ge
theorem f_Rk_costOf_16 : fetch 52 16 = some (.iload_n 2) := by decide +kernel
theorem e_Rk_costOf_16 (a0 a1 a3 a4 a5 : AV) (σ : aM) (l2 : Int) (r : List AV)  : ev 52 16 [a0, a1, aI l2, a3, a4, a5] (r) σ = ev 52 17 [a0, a1, aI l2, a3, a4, a5] (aI l2 :: r) σ := ev_go f_Rk_costOf_16 rfl
theorem f_Rk_costOf_17 : fetch 52 17 = some (.ifCond .le 43) := by decide +kernel
theorem e_Rk_costOf_17 (a0 a1 a2 a3 a4 a5 : AV) (σ : aM) (x : Int) (r : List AV) : ev 52 17 [a0, a1, a2, a3, a4, a5] (aI x :: r) σ = if x ≤ 0 then ev 52 60 [a0, a1, a2, a3, a4, a5] r σ else ev 52 20 [a0, a1, a2, a3, a4, a5] r σ := ev_br f_Rk_costOf_17 rfl bc_le
theorem f_Rk_costOf_20 : fetch 52 20 = some (.iload_n 2) := by decide +kernel
theorem e_Rk_costOf_20 (a0 a1 a3 a4 a5 : AV) (σ : aM) (l2 : Int) (r : List AV)  : ev 52 20 [a0, a1, aI l2, a3, a4, a5] (r) σ = ev 52 21 [a0, a1, aI l2, a3, a4, a5] (aI l2 :: r) σ := ev_go f_Rk_costOf_20 rfl
theorem f_Rk_costOf_21 : fetch 52 21 = some (.aload_n 0) := by decide +kernel
theorem e_Rk_costOf_21 (a1 a2 a3 a4 a5 : AV) (σ : aM) (l0 : Option (Nat × Int)) (r : List AV)  : ev 52 21 [aQ l0, a1, a2, a3, a4, a5] (r) σ = ev 52 22 [aQ l0, a1, a2, a3, a4, a5] (aQ l0 :: r) σ := ev_go f_Rk_costOf_21 rfl
theorem f_Rk_costOf_22 : fetch 52 22 = some (.getfield 11) := by decide +kernel
theorem e_Rk_costOf_22 (a0 a1 a2 a3 a4 a5 : AV) (σ : aM) (i : Int) (r : List AV)  : ev 52 22 [a0, a1, a2, a3, a4, a5] (aR 16 i :: r) σ = ev 52 25 [a0, a1, a2, a3, a4, a5] (aR 17 0 :: r) σ := ev_go f_Rk_costOf_22 rfl
theorem f_Rk_costOf_25 : fetch 52 25 = some (.iload 4) := by decide +kernel
theorem e_Rk_costOf_25 (a0 a1 a2 a3 a5 : AV) (σ : aM) (l4 : Int) (r : List AV)  : ev 52 25 [a0, a1, a2, a3, aI l4, a5] (r) σ = ev 52 27 [a0, a1, a2, a3, aI l4, a5] (aI l4 :: r) σ := ev_go f_Rk_costOf_25 rfl
theorem f_Rk_costOf_27 : fetch 52 27 = some (.aaload) := by decide +kernel
theorem e_Rk_costOf_27 (a0 a1 a2 a3 a4 a5 : AV) (σ : aM) (x : Int) (i : Int) (r : List AV) (h : 0 ≤ x ∧ x < 60) : ev 52 27 [a0, a1, a2, a3, a4, a5] (aI x :: aR 17 i :: r) σ = ev 52 28 [a0, a1, a2, a3, a4, a5] (aQ (gR σ x) :: r) σ := ev_cd f_Rk_costOf_27 rfl ⟨by decide, by decide, h.1, by rw [aLen_n (by decide) rfl]; exact h.2⟩
theorem f_Rk_costOf_28 : fetch 52 28 = some (.getfield 56) := by decide +kernel
theorem e_Rk_costOf_28 (a0 a1 a2 a3 a4 a5 : AV) (σ : aM) (i : Int) (r : List AV)  : ev 52 28 [a0, a1, a2, a3, a4, a5] (aR 8 i :: r) σ = ev 52 31 [a0, a1, a2, a3, a4, a5] (aI (gI σ 8 i 4) :: r) σ := ev_go f_Rk_costOf_28 rfl
theorem f_Rk_costOf_31 : fetch 52 31 = some (.invokestatic 59) := by decide +kernel
theorem e_Rk_costOf_31 (a0 a1 a2 a3 a4 a5 : AV) (σ : aM) (s0 : Int) (s1 : Int) : ev 52 31 [a0, a1, a2, a3, a4, a5] [aI s1, aI s0] σ = ev 52 34 [a0, a1, a2, a3, a4, a5] (aI (if s1 < s0 then s1 else s0) :: []) σ := ev_go f_Rk_costOf_31 rfl
theorem f_Rk_costOf_34 : fetch 52 34 = some (.istore 5) := by decide +kernel
theorem e_Rk_costOf_34 (a0 a1 a2 a3 a5 : AV) (σ : aM) (x : Int) (l4 : Int) (r : List AV)  : ev 52 34 [a0, a1, a2, a3, aI l4, a5] (aI x :: r) σ = ev 52 36 [a0, a1, a2, a3, aI l4, aI x] (r) σ := ev_go f_Rk_costOf_34 rfl
theorem f_Rk_costOf_36 : fetch 52 36 = some (.iload_n 3) := by decide +kernel
theorem e_Rk_costOf_36 (a0 a1 a2 a4 a5 : AV) (σ : aM) (l3 : Int) (r : List AV)  : ev 52 36 [a0, a1, a2, aI l3, a4, a5] (r) σ = ev 52 37 [a0, a1, a2, aI l3, a4, a5] (aI l3 :: r) σ := ev_go f_Rk_costOf_36 rfl
theorem f_Rk_costOf_37 : fetch 52 37 = some (.iload 5) := by decide +kernel
theorem e_Rk_costOf_37 (a0 a1 a2 a3 a4 : AV) (σ : aM) (l5 : Int) (r : List AV)  : ev 52 37 [a0, a1, a2, a3, a4, aI l5] (r) σ = ev 52 39 [a0, a1, a2, a3, a4, aI l5] (aI l5 :: r) σ := ev_go f_Rk_costOf_37 rfl
theorem f_Rk_costOf_39 : fetch 52 39 = some (.aload_n 0) := by decide +kernel
theorem e_Rk_costOf_39 (a1 a2 a3 a4 a5 : AV) (σ : aM) (l0 : Option (Nat × Int)) (r : List AV)  : ev 52 39 [aQ l0, a1, a2, a3, a4, a5] (r) σ = ev 52 40 [aQ l0, a1, a2, a3, a4, a5] (aQ l0 :: r) σ := ev_go f_Rk_costOf_39 rfl
theorem f_Rk_costOf_40 : fetch 52 40 = some (.getfield 17) := by decide +kernel
theorem e_Rk_costOf_40 (a0 a1 a2 a3 a4 a5 : AV) (σ : aM) (i : Int) (r : List AV)  : ev 52 40 [a0, a1, a2, a3, a4, a5] (aR 16 i :: r) σ = ev 52 43 [a0, a1, a2, a3, a4, a5] (aR 18 0 :: r) σ := ev_go f_Rk_costOf_40 rfl
theorem f_Rk_costOf_43 : fetch 52 43 = some (.iload 4) := by decide +kernel
theorem e_Rk_costOf_43 (a0 a1 a2 a3 a5 : AV) (σ : aM) (l4 : Int) (r : List AV)  : ev 52 43 [a0, a1, a2, a3, aI l4, a5] (r) σ = ev 52 45 [a0, a1, a2, a3, aI l4, a5] (aI l4 :: r) σ := ev_go f_Rk_costOf_43 rfl
theorem f_Rk_costOf_45 : fetch 52 45 = some (.iaload) := by decide +kernel
theorem e_Rk_costOf_45 (a0 a1 a2 a3 a4 a5 : AV) (σ : aM) (x : Int) (i : Int) (r : List AV) (h : 0 ≤ x ∧ x < 60) : ev 52 45 [a0, a1, a2, a3, a4, a5] (aI x :: aR 18 i :: r) σ = ev 52 46 [a0, a1, a2, a3, a4, a5] (aI (gI σ 18 i x) :: r) σ := ev_ld (j := i) f_Rk_costOf_45 rfl rfl (by decide) rfl h
theorem f_Rk_costOf_46 : fetch 52 46 = some (.imul) := by decide +kernel
theorem e_Rk_costOf_46 (a0 a1 a2 a3 a4 a5 : AV) (σ : aM) (x z : Int) (r : List AV)  : ev 52 46 [a0, a1, a2, a3, a4, a5] (aI z :: aI x :: r) σ = ev 52 47 [a0, a1, a2, a3, a4, a5] (aI (wr (x * z)) :: r) σ := ev_go f_Rk_costOf_46 rfl
theorem f_Rk_costOf_47 : fetch 52 47 = some (.iadd) := by decide +kernel
theorem e_Rk_costOf_47 (a0 a1 a2 a3 a4 a5 : AV) (σ : aM) (x z : Int) (r : List AV)  : ev 52 47 [a0, a1, a2, a3, a4, a5] (aI z :: aI x :: r) σ = ev 52 48 [a0, a1, a2, a3, a4, a5] (aI (wr (x + z)) :: r) σ := ev_go f_Rk_costOf_47 rfl
theorem f_Rk_costOf_48 : fetch 52 48 = some (.istore_n 3) := by decide +kernel
theorem e_Rk_costOf_48 (a0 a1 a3 a4 a5 : AV) (σ : aM) (x : Int) (l2 : Int) (r : List AV)  : ev 52 48 [a0, a1, aI l2, a3, a4, a5] (aI x :: r) σ = ev 52 49 [a0, a1, aI l2, aI x, a4, a5] (r) σ := ev_go f_Rk_costOf_48 rfl
theorem f_Rk_costOf_49 : fetch 52 49 = some (.iload_n 2) := by decide +kernel
theorem e_Rk_costOf_49 (a0 a1 a3 a4 a5 : AV) (σ : aM) (l2 : Int) (r : List AV)  : ev 52 49 [a0, a1, aI l2, a3, a4, a5] (r) σ = ev 52 50 [a0, a1, aI l2, a3, a4, a5] (aI l2 :: r) σ := ev_go f_Rk_costOf_49 rfl
theorem f_Rk_costOf_50 : fetch 52 50 = some (.iload 5) := by decide +kernel
theorem e_Rk_costOf_50 (a0 a1 a2 a3 a4 : AV) (σ : aM) (l5 : Int) (r : List AV)  : ev 52 50 [a0, a1, a2, a3, a4, aI l5] (r) σ = ev 52 52 [a0, a1, a2, a3, a4, aI l5] (aI l5 :: r) σ := ev_go f_Rk_costOf_50 rfl
theorem f_Rk_costOf_52 : fetch 52 52 = some (.isub) := by decide +kernel
theorem e_Rk_costOf_52 (a0 a1 a2 a3 a4 a5 : AV) (σ : aM) (x z : Int) (r : List AV)  : ev 52 52 [a0, a1, a2, a3, a4, a5] (aI z :: aI x :: r) σ = ev 52 53 [a0, a1, a2, a3, a4, a5] (aI (wr (x - z)) :: r) σ := ev_go f_Rk_costOf_52 rfl
theorem f_Rk_costOf_53 : fetch 52 53 = some (.istore_n 2) := by decide +kernel
theorem e_Rk_costOf_53 (a0 a2 a3 a4 a5 : AV) (σ : aM) (x : Int) (l1 : Int) (r : List AV)  : ev 52 53 [a0, aI l1, a2, a3, a4, a5] (aI x :: r) σ = ev 52 54 [a0, aI l1, aI x, a3, a4, a5] (r) σ := ev_go f_Rk_costOf_53 rfl
theorem f_Rk_costOf_54 : fetch 52 54 = some (.iinc 4 1) := by decide +kernel
theorem e_Rk_costOf_54 (a0 a1 a2 a5 : AV) (σ : aM) (l4 : Int) (l3 : Int) (r : List AV)  : ev 52 54 [a0, a1, a2, aI l3, aI l4, a5] (r) σ = ev 52 57 [a0, a1, a2, aI l3, aI (wr (l4 + 1)), a5] (r) σ := ev_go f_Rk_costOf_54 rfl
theorem f_Rk_costOf_57 : fetch 52 57 = some (.goto (-50)) := by decide +kernel
theorem e_Rk_costOf_57 (a0 a1 a2 a3 a4 a5 : AV) (σ : aM) (r : List AV)  : ev 52 57 [a0, a1, a2, a3, a4, a5] (r) σ = ev 52 7 [a0, a1, a2, a3, a4, a5] (r) σ := ev_go f_Rk_costOf_57 rfl
theorem f_Rk_costOf_60 : fetch 52 60 = some (.iload_n 2) := by decide +kernel
theorem e_Rk_costOf_60 (a0 a1 a3 a4 a5 : AV) (σ : aM) (l2 : Int) (r : List AV)  : ev 52 60 [a0, a1, aI l2, a3, a4, a5] (r) σ = ev 52 61 [a0, a1, aI l2, a3, a4, a5] (aI l2 :: r) σ := ev_go f_Rk_costOf_60 rfl
theorem f_Rk_costOf_61 : fetch 52 61 = some (.ifCond .le 7) := by decide +kernel
theorem e_Rk_costOf_61 (a0 a1 a2 a3 a4 a5 : AV) (σ : aM) (x : Int) (r : List AV) : ev 52 61 [a0, a1, a2, a3, a4, a5] (aI x :: r) σ = if x ≤ 0 then ev 52 68 [a0, a1, a2, a3, a4, a5] r σ else ev 52 64 [a0, a1, a2, a3, a4, a5] r σ := ev_br f_Rk_costOf_61 rfl bc_le
theorem f_Rk_costOf_64 : fetch 52 64 = some (.iconst (-1)) := by decide +kernel
theorem e_Rk_costOf_64 (a0 a1 a2 a3 a4 a5 : AV) (σ : aM) (r : List AV)  : ev 52 64 [a0, a1, a2, a3, a4, a5] (r) σ = ev 52 65 [a0, a1, a2, a3, a4, a5] (aI (-1) :: r) σ := ev_go f_Rk_costOf_64 rfl
theorem f_Rk_costOf_65 : fetch 52 65 = some (.goto 4) := by decide +kernel
theorem e_Rk_costOf_65 (a0 a1 a2 a3 a4 a5 : AV) (σ : aM) (r : List AV)  : ev 52 65 [a0, a1, a2, a3, a4, a5] (r) σ = ev 52 69 [a0, a1, a2, a3, a4, a5] (r) σ := ev_go f_Rk_costOf_65 rfl
theorem f_Rk_costOf_68 : fetch 52 68 = some (.iload_n 3) := by decide +kernel
theorem e_Rk_costOf_68 (a0 a1 a2 a4 a5 : AV) (σ : aM) (l3 : Int) (r : List AV)  : ev 52 68 [a0, a1, a2, aI l3, a4, a5] (r) σ = ev 52 69 [a0, a1, a2, aI l3, a4, a5] (aI l3 :: r) σ := ev_go f_Rk_costOf_68 rfl
theorem f_Rk_costOf_69 : fetch 52 69 = some (.ireturn) := by decide +kernel
theorem e_Rk_costOf_69 (a0 a1 a2 a3 a4 a5 : AV) (σ : aM) (x : Int) : ev 52 69 [a0, a1, a2, a3, a4, a5] [aI x] σ = some ((some (aI x)), σ) := ev_ret f_Rk_costOf_69 rfl
theorem f_Sh_holdNothing_0 : fetch 54 0 = some (.aload_n 0) := by decide +kernel
theorem e_Sh_holdNothing_0 (σ : aM) (l0 : Option (Nat × Int)) (r : List AV)  : ev 54 0 [aQ l0] (r) σ = ev 54 1 [aQ l0] (aQ l0 :: r) σ := ev_go f_Sh_holdNothing_0 rfl
theorem f_Sh_holdNothing_1 : fetch 54 1 = some (.iconst 0) := by decide +kernel
theorem e_Sh_holdNothing_1 (a0 : AV) (σ : aM) (r : List AV)  : ev 54 1 [a0] (r) σ = ev 54 2 [a0] (aI 0 :: r) σ := ev_go f_Sh_holdNothing_1 rfl
theorem f_Sh_holdNothing_2 : fetch 54 2 = some (.putfield 15) := by decide +kernel
theorem e_Sh_holdNothing_2 (a0 : AV) (σ : aM) (i : Int) (x : Int) (r : List AV)  : ev 54 2 [a0] (aI x :: aR 2 i :: r) σ = ev 54 5 [a0] (r) (uI σ 2 i 1 x) := ev_go f_Sh_holdNothing_2 rfl
theorem f_Sh_holdNothing_5 : fetch 54 5 = some (.aload_n 0) := by decide +kernel
theorem e_Sh_holdNothing_5 (σ : aM) (l0 : Option (Nat × Int)) (r : List AV)  : ev 54 5 [aQ l0] (r) σ = ev 54 6 [aQ l0] (aQ l0 :: r) σ := ev_go f_Sh_holdNothing_5 rfl
theorem f_Sh_holdNothing_6 : fetch 54 6 = some (.iconst (-1)) := by decide +kernel
theorem e_Sh_holdNothing_6 (a0 : AV) (σ : aM) (r : List AV)  : ev 54 6 [a0] (r) σ = ev 54 7 [a0] (aI (-1) :: r) σ := ev_go f_Sh_holdNothing_6 rfl
theorem f_Sh_holdNothing_7 : fetch 54 7 = some (.putfield 19) := by decide +kernel
theorem e_Sh_holdNothing_7 (a0 : AV) (σ : aM) (i : Int) (x : Int) (r : List AV)  : ev 54 7 [a0] (aI x :: aR 2 i :: r) σ = ev 54 10 [a0] (r) (uI σ 2 i 2 x) := ev_go f_Sh_holdNothing_7 rfl
theorem f_Sh_holdNothing_10 : fetch 54 10 = some (.aload_n 0) := by decide +kernel
theorem e_Sh_holdNothing_10 (σ : aM) (l0 : Option (Nat × Int)) (r : List AV)  : ev 54 10 [aQ l0] (r) σ = ev 54 11 [aQ l0] (aQ l0 :: r) σ := ev_go f_Sh_holdNothing_10 rfl
theorem f_Sh_holdNothing_11 : fetch 54 11 = some (.iconst (-1)) := by decide +kernel
theorem e_Sh_holdNothing_11 (a0 : AV) (σ : aM) (r : List AV)  : ev 54 11 [a0] (r) σ = ev 54 12 [a0] (aI (-1) :: r) σ := ev_go f_Sh_holdNothing_11 rfl
theorem f_Sh_holdNothing_12 : fetch 54 12 = some (.putfield 22) := by decide +kernel
theorem e_Sh_holdNothing_12 (a0 : AV) (σ : aM) (i : Int) (x : Int) (r : List AV)  : ev 54 12 [a0] (aI x :: aR 2 i :: r) σ = ev 54 15 [a0] (r) (uI σ 2 i 3 x) := ev_go f_Sh_holdNothing_12 rfl
theorem f_Sh_holdNothing_15 : fetch 54 15 = some (.return_) := by decide +kernel
theorem e_Sh_holdNothing_15 (a0 : AV) (σ : aM)  : ev 54 15 [a0] [] σ = some (none, σ) := ev_ret f_Sh_holdNothing_15 rfl
theorem f_Sh_holdOrder_0 : fetch 55 0 = some (.aload_n 0) := by decide +kernel
theorem e_Sh_holdOrder_0 (a1 : AV) (σ : aM) (l0 : Option (Nat × Int)) (r : List AV)  : ev 55 0 [aQ l0, a1] (r) σ = ev 55 1 [aQ l0, a1] (aQ l0 :: r) σ := ev_go f_Sh_holdOrder_0 rfl
theorem f_Sh_holdOrder_1 : fetch 55 1 = some (.invokevirtual 25) := by decide +kernel
theorem e_Sh_holdOrder_1 (a0 a1 : AV) (σ : aM) (s0 : Int) : ev 55 1 [a0, a1] [aR 2 s0] σ = evK 55 4 [a0, a1] [] (ev 54 0 [aR 2 s0] [] σ) := ev_call f_Sh_holdOrder_1 rfl rfl
theorem f_Sh_holdOrder_4 : fetch 55 4 = some (.aload_n 0) := by decide +kernel
theorem e_Sh_holdOrder_4 (a1 : AV) (σ : aM) (l0 : Option (Nat × Int)) (r : List AV)  : ev 55 4 [aQ l0, a1] (r) σ = ev 55 5 [aQ l0, a1] (aQ l0 :: r) σ := ev_go f_Sh_holdOrder_4 rfl
theorem f_Sh_holdOrder_5 : fetch 55 5 = some (.iload_n 1) := by decide +kernel
theorem e_Sh_holdOrder_5 (a0 : AV) (σ : aM) (l1 : Int) (r : List AV)  : ev 55 5 [a0, aI l1] (r) σ = ev 55 6 [a0, aI l1] (aI l1 :: r) σ := ev_go f_Sh_holdOrder_5 rfl
theorem f_Sh_holdOrder_6 : fetch 55 6 = some (.putfield 22) := by decide +kernel
theorem e_Sh_holdOrder_6 (a0 a1 : AV) (σ : aM) (i : Int) (x : Int) (r : List AV)  : ev 55 6 [a0, a1] (aI x :: aR 2 i :: r) σ = ev 55 9 [a0, a1] (r) (uI σ 2 i 3 x) := ev_go f_Sh_holdOrder_6 rfl
theorem f_Sh_holdOrder_9 : fetch 55 9 = some (.return_) := by decide +kernel
theorem e_Sh_holdOrder_9 (a0 a1 : AV) (σ : aM)  : ev 55 9 [a0, a1] [] σ = some (none, σ) := ev_ret f_Sh_holdOrder_9 rfl
theorem f_Sh_holdRow_0 : fetch 56 0 = some (.aload_n 0) := by decide +kernel
theorem e_Sh_holdRow_0 (a1 a2 : AV) (σ : aM) (l0 : Option (Nat × Int)) (r : List AV)  : ev 56 0 [aQ l0, a1, a2] (r) σ = ev 56 1 [aQ l0, a1, a2] (aQ l0 :: r) σ := ev_go f_Sh_holdRow_0 rfl
theorem f_Sh_holdRow_1 : fetch 56 1 = some (.invokevirtual 25) := by decide +kernel
theorem e_Sh_holdRow_1 (a0 a1 a2 : AV) (σ : aM) (s0 : Int) : ev 56 1 [a0, a1, a2] [aR 2 s0] σ = evK 56 4 [a0, a1, a2] [] (ev 54 0 [aR 2 s0] [] σ) := ev_call f_Sh_holdRow_1 rfl rfl
theorem f_Sh_holdRow_4 : fetch 56 4 = some (.aload_n 0) := by decide +kernel
theorem e_Sh_holdRow_4 (a1 a2 : AV) (σ : aM) (l0 : Option (Nat × Int)) (r : List AV)  : ev 56 4 [aQ l0, a1, a2] (r) σ = ev 56 5 [aQ l0, a1, a2] (aQ l0 :: r) σ := ev_go f_Sh_holdRow_4 rfl
theorem f_Sh_holdRow_5 : fetch 56 5 = some (.getfield 9) := by decide +kernel
theorem e_Sh_holdRow_5 (a0 a1 a2 : AV) (σ : aM) (i : Int) (r : List AV)  : ev 56 5 [a0, a1, a2] (aR 2 i :: r) σ = ev 56 8 [a0, a1, a2] (aR 3 i :: r) σ := ev_go f_Sh_holdRow_5 rfl
theorem f_Sh_holdRow_8 : fetch 56 8 = some (.lconst 0) := by decide +kernel
theorem e_Sh_holdRow_8 (a0 a1 a2 : AV) (σ : aM) (r : List AV)  : ev 56 8 [a0, a1, a2] (r) σ = ev 56 9 [a0, a1, a2] (aJ 0 :: r) σ := ev_go f_Sh_holdRow_8 rfl
theorem f_Sh_holdRow_9 : fetch 56 9 = some (.invokestatic 28) := by decide +kernel
theorem e_Sh_holdRow_9 (a0 a1 a2 : AV) (σ : aM) (s0 : Option (Nat × Int)) (s1 : Int64) : ev 56 9 [a0, a1, a2] [aJ s1, aQ s0] σ = evK 56 12 [a0, a1, a2] [] (ev 211 0 [aQ s0, aJ s1, aU, aU, aU] [] σ) := ev_call f_Sh_holdRow_9 rfl rfl
theorem f_Sh_holdRow_12 : fetch 56 12 = some (.aload_n 0) := by decide +kernel
theorem e_Sh_holdRow_12 (a1 a2 : AV) (σ : aM) (l0 : Option (Nat × Int)) (r : List AV)  : ev 56 12 [aQ l0, a1, a2] (r) σ = ev 56 13 [aQ l0, a1, a2] (aQ l0 :: r) σ := ev_go f_Sh_holdRow_12 rfl
theorem f_Sh_holdRow_13 : fetch 56 13 = some (.iload_n 1) := by decide +kernel
theorem e_Sh_holdRow_13 (a0 a2 : AV) (σ : aM) (l1 : Int) (r : List AV)  : ev 56 13 [a0, aI l1, a2] (r) σ = ev 56 14 [a0, aI l1, a2] (aI l1 :: r) σ := ev_go f_Sh_holdRow_13 rfl
theorem f_Sh_holdRow_14 : fetch 56 14 = some (.putfield 19) := by decide +kernel
theorem e_Sh_holdRow_14 (a0 a1 a2 : AV) (σ : aM) (i : Int) (x : Int) (r : List AV)  : ev 56 14 [a0, a1, a2] (aI x :: aR 2 i :: r) σ = ev 56 17 [a0, a1, a2] (r) (uI σ 2 i 2 x) := ev_go f_Sh_holdRow_14 rfl
theorem f_Sh_holdRow_17 : fetch 56 17 = some (.aload_n 0) := by decide +kernel
theorem e_Sh_holdRow_17 (a1 a2 : AV) (σ : aM) (l0 : Option (Nat × Int)) (r : List AV)  : ev 56 17 [aQ l0, a1, a2] (r) σ = ev 56 18 [aQ l0, a1, a2] (aQ l0 :: r) σ := ev_go f_Sh_holdRow_17 rfl
theorem f_Sh_holdRow_18 : fetch 56 18 = some (.iload_n 2) := by decide +kernel
theorem e_Sh_holdRow_18 (a0 a1 : AV) (σ : aM) (l2 : Int) (r : List AV)  : ev 56 18 [a0, a1, aI l2] (r) σ = ev 56 19 [a0, a1, aI l2] (aI l2 :: r) σ := ev_go f_Sh_holdRow_18 rfl
theorem f_Sh_holdRow_19 : fetch 56 19 = some (.putfield 15) := by decide +kernel
theorem e_Sh_holdRow_19 (a0 a1 a2 : AV) (σ : aM) (i : Int) (x : Int) (r : List AV)  : ev 56 19 [a0, a1, a2] (aI x :: aR 2 i :: r) σ = ev 56 22 [a0, a1, a2] (r) (uI σ 2 i 1 x) := ev_go f_Sh_holdRow_19 rfl
theorem f_Sh_holdRow_22 : fetch 56 22 = some (.return_) := by decide +kernel
theorem e_Sh_holdRow_22 (a0 a1 a2 : AV) (σ : aM)  : ev 56 22 [a0, a1, a2] [] σ = some (none, σ) := ev_ret f_Sh_holdRow_22 rfl
theorem f_Sh_holdsRow_0 : fetch 57 0 = some (.aload_n 0) := by decide +kernel
theorem e_Sh_holdsRow_0 (σ : aM) (l0 : Option (Nat × Int)) (r : List AV)  : ev 57 0 [aQ l0] (r) σ = ev 57 1 [aQ l0] (aQ l0 :: r) σ := ev_go f_Sh_holdsRow_0 rfl
theorem f_Sh_holdsRow_1 : fetch 57 1 = some (.getfield 19) := by decide +kernel
theorem e_Sh_holdsRow_1 (a0 : AV) (σ : aM) (i : Int) (r : List AV)  : ev 57 1 [a0] (aR 2 i :: r) σ = ev 57 4 [a0] (aI (gI σ 2 i 2) :: r) σ := ev_go f_Sh_holdsRow_1 rfl
theorem f_Sh_holdsRow_4 : fetch 57 4 = some (.iconst (-1)) := by decide +kernel
theorem e_Sh_holdsRow_4 (a0 : AV) (σ : aM) (r : List AV)  : ev 57 4 [a0] (r) σ = ev 57 5 [a0] (aI (-1) :: r) σ := ev_go f_Sh_holdsRow_4 rfl
theorem f_Sh_holdsRow_5 : fetch 57 5 = some (.if_icmp .eq 7) := by decide +kernel
theorem e_Sh_holdsRow_5 (a0 : AV) (σ : aM) (x z : Int) (r : List AV) : ev 57 5 [a0] (aI z :: aI x :: r) σ = if x = z then ev 57 12 [a0] r σ else ev 57 8 [a0] r σ := ev_br f_Sh_holdsRow_5 rfl bc_eq
theorem f_Sh_holdsRow_8 : fetch 57 8 = some (.iconst 1) := by decide +kernel
theorem e_Sh_holdsRow_8 (a0 : AV) (σ : aM) (r : List AV)  : ev 57 8 [a0] (r) σ = ev 57 9 [a0] (aI 1 :: r) σ := ev_go f_Sh_holdsRow_8 rfl
theorem f_Sh_holdsRow_9 : fetch 57 9 = some (.goto 4) := by decide +kernel
theorem e_Sh_holdsRow_9 (a0 : AV) (σ : aM) (r : List AV)  : ev 57 9 [a0] (r) σ = ev 57 13 [a0] (r) σ := ev_go f_Sh_holdsRow_9 rfl
theorem f_Sh_holdsRow_12 : fetch 57 12 = some (.iconst 0) := by decide +kernel
theorem e_Sh_holdsRow_12 (a0 : AV) (σ : aM) (r : List AV)  : ev 57 12 [a0] (r) σ = ev 57 13 [a0] (aI 0 :: r) σ := ev_go f_Sh_holdsRow_12 rfl
theorem f_Sh_holdsRow_13 : fetch 57 13 = some (.ireturn) := by decide +kernel
theorem e_Sh_holdsRow_13 (a0 : AV) (σ : aM) (x : Int) (h : x = 0 ∨ x = 1) : ev 57 13 [a0] [aI x] σ = some ((some (aI x)), σ) := ev_rB f_Sh_holdsRow_13 rfl h
theorem f_Sh_holdsOrder_0 : fetch 58 0 = some (.aload_n 0) := by decide +kernel
theorem e_Sh_holdsOrder_0 (σ : aM) (l0 : Option (Nat × Int)) (r : List AV)  : ev 58 0 [aQ l0] (r) σ = ev 58 1 [aQ l0] (aQ l0 :: r) σ := ev_go f_Sh_holdsOrder_0 rfl
theorem f_Sh_holdsOrder_1 : fetch 58 1 = some (.getfield 22) := by decide +kernel
theorem e_Sh_holdsOrder_1 (a0 : AV) (σ : aM) (i : Int) (r : List AV)  : ev 58 1 [a0] (aR 2 i :: r) σ = ev 58 4 [a0] (aI (gI σ 2 i 3) :: r) σ := ev_go f_Sh_holdsOrder_1 rfl
theorem f_Sh_holdsOrder_4 : fetch 58 4 = some (.iconst (-1)) := by decide +kernel
theorem e_Sh_holdsOrder_4 (a0 : AV) (σ : aM) (r : List AV)  : ev 58 4 [a0] (r) σ = ev 58 5 [a0] (aI (-1) :: r) σ := ev_go f_Sh_holdsOrder_4 rfl
theorem f_Sh_holdsOrder_5 : fetch 58 5 = some (.if_icmp .eq 7) := by decide +kernel
theorem e_Sh_holdsOrder_5 (a0 : AV) (σ : aM) (x z : Int) (r : List AV) : ev 58 5 [a0] (aI z :: aI x :: r) σ = if x = z then ev 58 12 [a0] r σ else ev 58 8 [a0] r σ := ev_br f_Sh_holdsOrder_5 rfl bc_eq
theorem f_Sh_holdsOrder_8 : fetch 58 8 = some (.iconst 1) := by decide +kernel
theorem e_Sh_holdsOrder_8 (a0 : AV) (σ : aM) (r : List AV)  : ev 58 8 [a0] (r) σ = ev 58 9 [a0] (aI 1 :: r) σ := ev_go f_Sh_holdsOrder_8 rfl
theorem f_Sh_holdsOrder_9 : fetch 58 9 = some (.goto 4) := by decide +kernel
theorem e_Sh_holdsOrder_9 (a0 : AV) (σ : aM) (r : List AV)  : ev 58 9 [a0] (r) σ = ev 58 13 [a0] (r) σ := ev_go f_Sh_holdsOrder_9 rfl
theorem f_Sh_holdsOrder_12 : fetch 58 12 = some (.iconst 0) := by decide +kernel
theorem e_Sh_holdsOrder_12 (a0 : AV) (σ : aM) (r : List AV)  : ev 58 12 [a0] (r) σ = ev 58 13 [a0] (aI 0 :: r) σ := ev_go f_Sh_holdsOrder_12 rfl
theorem f_Sh_holdsOrder_13 : fetch 58 13 = some (.ireturn) := by decide +kernel
theorem e_Sh_holdsOrder_13 (a0 : AV) (σ : aM) (x : Int) (h : x = 0 ∨ x = 1) : ev 58 13 [a0] [aI x] σ = some ((some (aI x)), σ) := ev_rB f_Sh_holdsOrder_13 rfl h
theorem f_Sh_hasElement_0 : fetch 59 0 = some (.iload_n 1) := by decide +kernel
theorem e_Sh_hasElement_0 (a0 : AV) (σ : aM) (l1 : Int) (r : List AV)  : ev 59 0 [a0, aI l1] (r) σ = ev 59 1 [a0, aI l1] (aI l1 :: r) σ := ev_go f_Sh_hasElement_0 rfl
theorem f_Sh_hasElement_1 : fetch 59 1 = some (.ifCond .lt 15) := by decide +kernel
theorem e_Sh_hasElement_1 (a0 a1 : AV) (σ : aM) (x : Int) (r : List AV) : ev 59 1 [a0, a1] (aI x :: r) σ = if x < 0 then ev 59 16 [a0, a1] r σ else ev 59 4 [a0, a1] r σ := ev_br f_Sh_hasElement_1 rfl bc_lt
theorem f_Sh_hasElement_4 : fetch 59 4 = some (.iload_n 1) := by decide +kernel
theorem e_Sh_hasElement_4 (a0 : AV) (σ : aM) (l1 : Int) (r : List AV)  : ev 59 4 [a0, aI l1] (r) σ = ev 59 5 [a0, aI l1] (aI l1 :: r) σ := ev_go f_Sh_hasElement_4 rfl
theorem f_Sh_hasElement_5 : fetch 59 5 = some (.aload_n 0) := by decide +kernel
theorem e_Sh_hasElement_5 (a1 : AV) (σ : aM) (l0 : Option (Nat × Int)) (r : List AV)  : ev 59 5 [aQ l0, a1] (r) σ = ev 59 6 [aQ l0, a1] (aQ l0 :: r) σ := ev_go f_Sh_hasElement_5 rfl
theorem f_Sh_hasElement_6 : fetch 59 6 = some (.getfield 15) := by decide +kernel
theorem e_Sh_hasElement_6 (a0 a1 : AV) (σ : aM) (i : Int) (r : List AV)  : ev 59 6 [a0, a1] (aR 2 i :: r) σ = ev 59 9 [a0, a1] (aI (gI σ 2 i 1) :: r) σ := ev_go f_Sh_hasElement_6 rfl
theorem f_Sh_hasElement_9 : fetch 59 9 = some (.if_icmp .ge 7) := by decide +kernel
theorem e_Sh_hasElement_9 (a0 a1 : AV) (σ : aM) (x z : Int) (r : List AV) : ev 59 9 [a0, a1] (aI z :: aI x :: r) σ = if z ≤ x then ev 59 16 [a0, a1] r σ else ev 59 12 [a0, a1] r σ := ev_br f_Sh_hasElement_9 rfl bc_ge
theorem f_Sh_hasElement_12 : fetch 59 12 = some (.iconst 1) := by decide +kernel
theorem e_Sh_hasElement_12 (a0 a1 : AV) (σ : aM) (r : List AV)  : ev 59 12 [a0, a1] (r) σ = ev 59 13 [a0, a1] (aI 1 :: r) σ := ev_go f_Sh_hasElement_12 rfl
theorem f_Sh_hasElement_13 : fetch 59 13 = some (.goto 4) := by decide +kernel
theorem e_Sh_hasElement_13 (a0 a1 : AV) (σ : aM) (r : List AV)  : ev 59 13 [a0, a1] (r) σ = ev 59 17 [a0, a1] (r) σ := ev_go f_Sh_hasElement_13 rfl
theorem f_Sh_hasElement_16 : fetch 59 16 = some (.iconst 0) := by decide +kernel
theorem e_Sh_hasElement_16 (a0 a1 : AV) (σ : aM) (r : List AV)  : ev 59 16 [a0, a1] (r) σ = ev 59 17 [a0, a1] (aI 0 :: r) σ := ev_go f_Sh_hasElement_16 rfl
theorem f_Sh_hasElement_17 : fetch 59 17 = some (.ireturn) := by decide +kernel
theorem e_Sh_hasElement_17 (a0 a1 : AV) (σ : aM) (x : Int) (h : x = 0 ∨ x = 1) : ev 59 17 [a0, a1] [aI x] σ = some ((some (aI x)), σ) := ev_rB f_Sh_hasElement_17 rfl h
theorem f_Sh_hasSpan_0 : fetch 60 0 = some (.iload_n 1) := by decide +kernel
theorem e_Sh_hasSpan_0 (a0 a2 : AV) (σ : aM) (l1 : Int) (r : List AV)  : ev 60 0 [a0, aI l1, a2] (r) σ = ev 60 1 [a0, aI l1, a2] (aI l1 :: r) σ := ev_go f_Sh_hasSpan_0 rfl
theorem f_Sh_hasSpan_1 : fetch 60 1 = some (.ifCond .lt 21) := by decide +kernel
theorem e_Sh_hasSpan_1 (a0 a1 a2 : AV) (σ : aM) (x : Int) (r : List AV) : ev 60 1 [a0, a1, a2] (aI x :: r) σ = if x < 0 then ev 60 22 [a0, a1, a2] r σ else ev 60 4 [a0, a1, a2] r σ := ev_br f_Sh_hasSpan_1 rfl bc_lt
theorem f_Sh_hasSpan_4 : fetch 60 4 = some (.iload_n 2) := by decide +kernel
theorem e_Sh_hasSpan_4 (a0 a1 : AV) (σ : aM) (l2 : Int) (r : List AV)  : ev 60 4 [a0, a1, aI l2] (r) σ = ev 60 5 [a0, a1, aI l2] (aI l2 :: r) σ := ev_go f_Sh_hasSpan_4 rfl
theorem f_Sh_hasSpan_5 : fetch 60 5 = some (.ifCond .lt 17) := by decide +kernel
theorem e_Sh_hasSpan_5 (a0 a1 a2 : AV) (σ : aM) (x : Int) (r : List AV) : ev 60 5 [a0, a1, a2] (aI x :: r) σ = if x < 0 then ev 60 22 [a0, a1, a2] r σ else ev 60 8 [a0, a1, a2] r σ := ev_br f_Sh_hasSpan_5 rfl bc_lt
theorem f_Sh_hasSpan_8 : fetch 60 8 = some (.iload_n 1) := by decide +kernel
theorem e_Sh_hasSpan_8 (a0 a2 : AV) (σ : aM) (l1 : Int) (r : List AV)  : ev 60 8 [a0, aI l1, a2] (r) σ = ev 60 9 [a0, aI l1, a2] (aI l1 :: r) σ := ev_go f_Sh_hasSpan_8 rfl
theorem f_Sh_hasSpan_9 : fetch 60 9 = some (.aload_n 0) := by decide +kernel
theorem e_Sh_hasSpan_9 (a1 a2 : AV) (σ : aM) (l0 : Option (Nat × Int)) (r : List AV)  : ev 60 9 [aQ l0, a1, a2] (r) σ = ev 60 10 [aQ l0, a1, a2] (aQ l0 :: r) σ := ev_go f_Sh_hasSpan_9 rfl
theorem f_Sh_hasSpan_10 : fetch 60 10 = some (.getfield 15) := by decide +kernel
theorem e_Sh_hasSpan_10 (a0 a1 a2 : AV) (σ : aM) (i : Int) (r : List AV)  : ev 60 10 [a0, a1, a2] (aR 2 i :: r) σ = ev 60 13 [a0, a1, a2] (aI (gI σ 2 i 1) :: r) σ := ev_go f_Sh_hasSpan_10 rfl
theorem f_Sh_hasSpan_13 : fetch 60 13 = some (.iload_n 2) := by decide +kernel
theorem e_Sh_hasSpan_13 (a0 a1 : AV) (σ : aM) (l2 : Int) (r : List AV)  : ev 60 13 [a0, a1, aI l2] (r) σ = ev 60 14 [a0, a1, aI l2] (aI l2 :: r) σ := ev_go f_Sh_hasSpan_13 rfl
theorem f_Sh_hasSpan_14 : fetch 60 14 = some (.isub) := by decide +kernel
theorem e_Sh_hasSpan_14 (a0 a1 a2 : AV) (σ : aM) (x z : Int) (r : List AV)  : ev 60 14 [a0, a1, a2] (aI z :: aI x :: r) σ = ev 60 15 [a0, a1, a2] (aI (wr (x - z)) :: r) σ := ev_go f_Sh_hasSpan_14 rfl
theorem f_Sh_hasSpan_15 : fetch 60 15 = some (.if_icmp .gt 7) := by decide +kernel
theorem e_Sh_hasSpan_15 (a0 a1 a2 : AV) (σ : aM) (x z : Int) (r : List AV) : ev 60 15 [a0, a1, a2] (aI z :: aI x :: r) σ = if z < x then ev 60 22 [a0, a1, a2] r σ else ev 60 18 [a0, a1, a2] r σ := ev_br f_Sh_hasSpan_15 rfl bc_gt
theorem f_Sh_hasSpan_18 : fetch 60 18 = some (.iconst 1) := by decide +kernel
theorem e_Sh_hasSpan_18 (a0 a1 a2 : AV) (σ : aM) (r : List AV)  : ev 60 18 [a0, a1, a2] (r) σ = ev 60 19 [a0, a1, a2] (aI 1 :: r) σ := ev_go f_Sh_hasSpan_18 rfl
theorem f_Sh_hasSpan_19 : fetch 60 19 = some (.goto 4) := by decide +kernel
theorem e_Sh_hasSpan_19 (a0 a1 a2 : AV) (σ : aM) (r : List AV)  : ev 60 19 [a0, a1, a2] (r) σ = ev 60 23 [a0, a1, a2] (r) σ := ev_go f_Sh_hasSpan_19 rfl
theorem f_Sh_hasSpan_22 : fetch 60 22 = some (.iconst 0) := by decide +kernel
theorem e_Sh_hasSpan_22 (a0 a1 a2 : AV) (σ : aM) (r : List AV)  : ev 60 22 [a0, a1, a2] (r) σ = ev 60 23 [a0, a1, a2] (aI 0 :: r) σ := ev_go f_Sh_hasSpan_22 rfl
theorem f_Sh_hasSpan_23 : fetch 60 23 = some (.ireturn) := by decide +kernel
theorem e_Sh_hasSpan_23 (a0 a1 a2 : AV) (σ : aM) (x : Int) (h : x = 0 ∨ x = 1) : ev 60 23 [a0, a1, a2] [aI x] σ = some ((some (aI x)), σ) := ev_rB f_Sh_hasSpan_23 rfl h
theorem f_Sh_put_0 : fetch 61 0 = some (.aload_n 0) := by decide +kernel
theorem e_Sh_put_0 (a1 a2 a3 : AV) (σ : aM) (l0 : Option (Nat × Int)) (r : List AV)  : ev 61 0 [aQ l0, a1, a2, a3] (r) σ = ev 61 1 [aQ l0, a1, a2, a3] (aQ l0 :: r) σ := ev_go f_Sh_put_0 rfl
theorem f_Sh_put_1 : fetch 61 1 = some (.iload_n 1) := by decide +kernel
theorem e_Sh_put_1 (a0 a2 a3 : AV) (σ : aM) (l1 : Int) (r : List AV)  : ev 61 1 [a0, aI l1, a2, a3] (r) σ = ev 61 2 [a0, aI l1, a2, a3] (aI l1 :: r) σ := ev_go f_Sh_put_1 rfl
theorem f_Sh_put_2 : fetch 61 2 = some (.invokevirtual 34) := by decide +kernel
theorem e_Sh_put_2 (a0 a1 a2 a3 : AV) (σ : aM) (s0 : Int) (s1 : Int) : ev 61 2 [a0, a1, a2, a3] [aI s1, aR 2 s0] σ = evK 61 5 [a0, a1, a2, a3] [] (ev 59 0 [aR 2 s0, aI s1] [] σ) := ev_call f_Sh_put_2 rfl rfl
theorem f_Sh_put_5 : fetch 61 5 = some (.ifCond .ne 4) := by decide +kernel
theorem e_Sh_put_5 (a0 a1 a2 a3 : AV) (σ : aM) (x : Int) (r : List AV) : ev 61 5 [a0, a1, a2, a3] (aI x :: r) σ = if ¬ x = 0 then ev 61 9 [a0, a1, a2, a3] r σ else ev 61 8 [a0, a1, a2, a3] r σ := ev_br f_Sh_put_5 rfl bc_ne
theorem f_Sh_put_8 : fetch 61 8 = some (.return_) := by decide +kernel
theorem e_Sh_put_8 (a0 a1 a2 a3 : AV) (σ : aM)  : ev 61 8 [a0, a1, a2, a3] [] σ = some (none, σ) := ev_ret f_Sh_put_8 rfl
theorem f_Sh_put_9 : fetch 61 9 = some (.aload_n 0) := by decide +kernel
theorem e_Sh_put_9 (a1 a2 a3 : AV) (σ : aM) (l0 : Option (Nat × Int)) (r : List AV)  : ev 61 9 [aQ l0, a1, a2, a3] (r) σ = ev 61 10 [aQ l0, a1, a2, a3] (aQ l0 :: r) σ := ev_go f_Sh_put_9 rfl
theorem f_Sh_put_10 : fetch 61 10 = some (.getfield 19) := by decide +kernel
theorem e_Sh_put_10 (a0 a1 a2 a3 : AV) (σ : aM) (i : Int) (r : List AV)  : ev 61 10 [a0, a1, a2, a3] (aR 2 i :: r) σ = ev 61 13 [a0, a1, a2, a3] (aI (gI σ 2 i 2) :: r) σ := ev_go f_Sh_put_10 rfl
theorem f_Sh_put_13 : fetch 61 13 = some (.tableswitch 65 0 2 #[27, 40, 53]) := by decide +kernel
theorem e_Sh_put_13 (a0 a1 a2 a3 : AV) (σ : aM) (r : List AV) (x : Int) (h : x < 0 ∨ 2 < x) : ev 61 13 [a0, a1, a2, a3] (aI x :: r) σ = ev 61 78 [a0, a1, a2, a3] r σ := ev_sw (dflt := 65) (lo := 0) (hi := 2) (offs := #[27, 40, 53]) f_Sh_put_13 rfl h rfl
theorem e_Sh_put_13_0 (a0 a1 a2 a3 : AV) (σ : aM) (r : List AV) : ev 61 13 [a0, a1, a2, a3] (aI 0 :: r) σ = ev 61 40 [a0, a1, a2, a3] r σ := ev_go f_Sh_put_13 rfl
theorem e_Sh_put_13_1 (a0 a1 a2 a3 : AV) (σ : aM) (r : List AV) : ev 61 13 [a0, a1, a2, a3] (aI 1 :: r) σ = ev 61 53 [a0, a1, a2, a3] r σ := ev_go f_Sh_put_13 rfl
theorem e_Sh_put_13_2 (a0 a1 a2 a3 : AV) (σ : aM) (r : List AV) : ev 61 13 [a0, a1, a2, a3] (aI 2 :: r) σ = ev 61 66 [a0, a1, a2, a3] r σ := ev_go f_Sh_put_13 rfl
theorem f_Sh_put_40 : fetch 61 40 = some (.aload_n 0) := by decide +kernel
theorem e_Sh_put_40 (a1 a2 a3 : AV) (σ : aM) (l0 : Option (Nat × Int)) (r : List AV)  : ev 61 40 [aQ l0, a1, a2, a3] (r) σ = ev 61 41 [aQ l0, a1, a2, a3] (aQ l0 :: r) σ := ev_go f_Sh_put_40 rfl
theorem f_Sh_put_41 : fetch 61 41 = some (.getfield 9) := by decide +kernel
theorem e_Sh_put_41 (a0 a1 a2 a3 : AV) (σ : aM) (i : Int) (r : List AV)  : ev 61 41 [a0, a1, a2, a3] (aR 2 i :: r) σ = ev 61 44 [a0, a1, a2, a3] (aR 3 i :: r) σ := ev_go f_Sh_put_41 rfl
theorem f_Sh_put_44 : fetch 61 44 = some (.iload_n 1) := by decide +kernel
theorem e_Sh_put_44 (a0 a2 a3 : AV) (σ : aM) (l1 : Int) (r : List AV)  : ev 61 44 [a0, aI l1, a2, a3] (r) σ = ev 61 45 [a0, aI l1, a2, a3] (aI l1 :: r) σ := ev_go f_Sh_put_44 rfl
theorem f_Sh_put_45 : fetch 61 45 = some (.lload_n 2) := by decide +kernel
theorem e_Sh_put_45 (a0 a1 a3 : AV) (σ : aM) (l2 : Int64) (r : List AV)  : ev 61 45 [a0, a1, aJ l2, a3] (r) σ = ev 61 46 [a0, a1, aJ l2, a3] (aJ l2 :: r) σ := ev_go f_Sh_put_45 rfl
theorem f_Sh_put_46 : fetch 61 46 = some (.l2i) := by decide +kernel
theorem e_Sh_put_46 (a0 a1 a2 a3 : AV) (σ : aM) (x : Int64) (r : List AV)  : ev 61 46 [a0, a1, a2, a3] (aJ x :: r) σ = ev 61 47 [a0, a1, a2, a3] (aI (toi x) :: r) σ := ev_go f_Sh_put_46 rfl
theorem f_Sh_put_47 : fetch 61 47 = some (.i2b) := by decide +kernel
theorem e_Sh_put_47 (a0 a1 a2 a3 : AV) (σ : aM) (x : Int) (r : List AV)  : ev 61 47 [a0, a1, a2, a3] (aI x :: r) σ = ev 61 48 [a0, a1, a2, a3] (aI (tob x) :: r) σ := ev_go f_Sh_put_47 rfl
theorem f_Sh_put_48 : fetch 61 48 = some (.i2l) := by decide +kernel
theorem e_Sh_put_48 (a0 a1 a2 a3 : AV) (σ : aM) (x : Int) (r : List AV)  : ev 61 48 [a0, a1, a2, a3] (aI x :: r) σ = ev 61 49 [a0, a1, a2, a3] (aJ (toj x) :: r) σ := ev_go f_Sh_put_48 rfl
theorem f_Sh_put_49 : fetch 61 49 = some (.lastore) := by decide +kernel
theorem e_Sh_put_49 (a0 a1 a2 a3 : AV) (σ : aM) (x : Int) (i : Int) (v : Int64) (r : List AV) (h : 0 ≤ x ∧ x < 160) : ev 61 49 [a0, a1, a2, a3] (aJ v :: aI x :: aR 3 i :: r) σ = ev 61 50 [a0, a1, a2, a3] (r) (uL σ 3 i x v) := ev_st1 f_Sh_put_49 rfl rfl (by decide) rfl h
theorem f_Sh_put_50 : fetch 61 50 = some (.goto 35) := by decide +kernel
theorem e_Sh_put_50 (a0 a1 a2 a3 : AV) (σ : aM) (r : List AV)  : ev 61 50 [a0, a1, a2, a3] (r) σ = ev 61 85 [a0, a1, a2, a3] (r) σ := ev_go f_Sh_put_50 rfl
theorem f_Sh_put_53 : fetch 61 53 = some (.aload_n 0) := by decide +kernel
theorem e_Sh_put_53 (a1 a2 a3 : AV) (σ : aM) (l0 : Option (Nat × Int)) (r : List AV)  : ev 61 53 [aQ l0, a1, a2, a3] (r) σ = ev 61 54 [aQ l0, a1, a2, a3] (aQ l0 :: r) σ := ev_go f_Sh_put_53 rfl
theorem f_Sh_put_54 : fetch 61 54 = some (.getfield 9) := by decide +kernel
theorem e_Sh_put_54 (a0 a1 a2 a3 : AV) (σ : aM) (i : Int) (r : List AV)  : ev 61 54 [a0, a1, a2, a3] (aR 2 i :: r) σ = ev 61 57 [a0, a1, a2, a3] (aR 3 i :: r) σ := ev_go f_Sh_put_54 rfl
theorem f_Sh_put_57 : fetch 61 57 = some (.iload_n 1) := by decide +kernel
theorem e_Sh_put_57 (a0 a2 a3 : AV) (σ : aM) (l1 : Int) (r : List AV)  : ev 61 57 [a0, aI l1, a2, a3] (r) σ = ev 61 58 [a0, aI l1, a2, a3] (aI l1 :: r) σ := ev_go f_Sh_put_57 rfl
theorem f_Sh_put_58 : fetch 61 58 = some (.lload_n 2) := by decide +kernel
theorem e_Sh_put_58 (a0 a1 a3 : AV) (σ : aM) (l2 : Int64) (r : List AV)  : ev 61 58 [a0, a1, aJ l2, a3] (r) σ = ev 61 59 [a0, a1, aJ l2, a3] (aJ l2 :: r) σ := ev_go f_Sh_put_58 rfl
theorem f_Sh_put_59 : fetch 61 59 = some (.l2i) := by decide +kernel
theorem e_Sh_put_59 (a0 a1 a2 a3 : AV) (σ : aM) (x : Int64) (r : List AV)  : ev 61 59 [a0, a1, a2, a3] (aJ x :: r) σ = ev 61 60 [a0, a1, a2, a3] (aI (toi x) :: r) σ := ev_go f_Sh_put_59 rfl
theorem f_Sh_put_60 : fetch 61 60 = some (.i2s) := by decide +kernel
theorem e_Sh_put_60 (a0 a1 a2 a3 : AV) (σ : aM) (x : Int) (r : List AV)  : ev 61 60 [a0, a1, a2, a3] (aI x :: r) σ = ev 61 61 [a0, a1, a2, a3] (aI (tos x) :: r) σ := ev_go f_Sh_put_60 rfl
theorem f_Sh_put_61 : fetch 61 61 = some (.i2l) := by decide +kernel
theorem e_Sh_put_61 (a0 a1 a2 a3 : AV) (σ : aM) (x : Int) (r : List AV)  : ev 61 61 [a0, a1, a2, a3] (aI x :: r) σ = ev 61 62 [a0, a1, a2, a3] (aJ (toj x) :: r) σ := ev_go f_Sh_put_61 rfl
theorem f_Sh_put_62 : fetch 61 62 = some (.lastore) := by decide +kernel
theorem e_Sh_put_62 (a0 a1 a2 a3 : AV) (σ : aM) (x : Int) (i : Int) (v : Int64) (r : List AV) (h : 0 ≤ x ∧ x < 160) : ev 61 62 [a0, a1, a2, a3] (aJ v :: aI x :: aR 3 i :: r) σ = ev 61 63 [a0, a1, a2, a3] (r) (uL σ 3 i x v) := ev_st1 f_Sh_put_62 rfl rfl (by decide) rfl h
theorem f_Sh_put_63 : fetch 61 63 = some (.goto 22) := by decide +kernel
theorem e_Sh_put_63 (a0 a1 a2 a3 : AV) (σ : aM) (r : List AV)  : ev 61 63 [a0, a1, a2, a3] (r) σ = ev 61 85 [a0, a1, a2, a3] (r) σ := ev_go f_Sh_put_63 rfl
theorem f_Sh_put_66 : fetch 61 66 = some (.aload_n 0) := by decide +kernel
theorem e_Sh_put_66 (a1 a2 a3 : AV) (σ : aM) (l0 : Option (Nat × Int)) (r : List AV)  : ev 61 66 [aQ l0, a1, a2, a3] (r) σ = ev 61 67 [aQ l0, a1, a2, a3] (aQ l0 :: r) σ := ev_go f_Sh_put_66 rfl
theorem f_Sh_put_67 : fetch 61 67 = some (.getfield 9) := by decide +kernel
theorem e_Sh_put_67 (a0 a1 a2 a3 : AV) (σ : aM) (i : Int) (r : List AV)  : ev 61 67 [a0, a1, a2, a3] (aR 2 i :: r) σ = ev 61 70 [a0, a1, a2, a3] (aR 3 i :: r) σ := ev_go f_Sh_put_67 rfl
theorem f_Sh_put_70 : fetch 61 70 = some (.iload_n 1) := by decide +kernel
theorem e_Sh_put_70 (a0 a2 a3 : AV) (σ : aM) (l1 : Int) (r : List AV)  : ev 61 70 [a0, aI l1, a2, a3] (r) σ = ev 61 71 [a0, aI l1, a2, a3] (aI l1 :: r) σ := ev_go f_Sh_put_70 rfl
theorem f_Sh_put_71 : fetch 61 71 = some (.lload_n 2) := by decide +kernel
theorem e_Sh_put_71 (a0 a1 a3 : AV) (σ : aM) (l2 : Int64) (r : List AV)  : ev 61 71 [a0, a1, aJ l2, a3] (r) σ = ev 61 72 [a0, a1, aJ l2, a3] (aJ l2 :: r) σ := ev_go f_Sh_put_71 rfl
theorem f_Sh_put_72 : fetch 61 72 = some (.l2i) := by decide +kernel
theorem e_Sh_put_72 (a0 a1 a2 a3 : AV) (σ : aM) (x : Int64) (r : List AV)  : ev 61 72 [a0, a1, a2, a3] (aJ x :: r) σ = ev 61 73 [a0, a1, a2, a3] (aI (toi x) :: r) σ := ev_go f_Sh_put_72 rfl
theorem f_Sh_put_73 : fetch 61 73 = some (.i2l) := by decide +kernel
theorem e_Sh_put_73 (a0 a1 a2 a3 : AV) (σ : aM) (x : Int) (r : List AV)  : ev 61 73 [a0, a1, a2, a3] (aI x :: r) σ = ev 61 74 [a0, a1, a2, a3] (aJ (toj x) :: r) σ := ev_go f_Sh_put_73 rfl
theorem f_Sh_put_74 : fetch 61 74 = some (.lastore) := by decide +kernel
theorem e_Sh_put_74 (a0 a1 a2 a3 : AV) (σ : aM) (x : Int) (i : Int) (v : Int64) (r : List AV) (h : 0 ≤ x ∧ x < 160) : ev 61 74 [a0, a1, a2, a3] (aJ v :: aI x :: aR 3 i :: r) σ = ev 61 75 [a0, a1, a2, a3] (r) (uL σ 3 i x v) := ev_st1 f_Sh_put_74 rfl rfl (by decide) rfl h
theorem f_Sh_put_75 : fetch 61 75 = some (.goto 10) := by decide +kernel
theorem e_Sh_put_75 (a0 a1 a2 a3 : AV) (σ : aM) (r : List AV)  : ev 61 75 [a0, a1, a2, a3] (r) σ = ev 61 85 [a0, a1, a2, a3] (r) σ := ev_go f_Sh_put_75 rfl
theorem f_Sh_put_78 : fetch 61 78 = some (.aload_n 0) := by decide +kernel
theorem e_Sh_put_78 (a1 a2 a3 : AV) (σ : aM) (l0 : Option (Nat × Int)) (r : List AV)  : ev 61 78 [aQ l0, a1, a2, a3] (r) σ = ev 61 79 [aQ l0, a1, a2, a3] (aQ l0 :: r) σ := ev_go f_Sh_put_78 rfl
theorem f_Sh_put_79 : fetch 61 79 = some (.getfield 9) := by decide +kernel
theorem e_Sh_put_79 (a0 a1 a2 a3 : AV) (σ : aM) (i : Int) (r : List AV)  : ev 61 79 [a0, a1, a2, a3] (aR 2 i :: r) σ = ev 61 82 [a0, a1, a2, a3] (aR 3 i :: r) σ := ev_go f_Sh_put_79 rfl
theorem f_Sh_put_82 : fetch 61 82 = some (.iload_n 1) := by decide +kernel
theorem e_Sh_put_82 (a0 a2 a3 : AV) (σ : aM) (l1 : Int) (r : List AV)  : ev 61 82 [a0, aI l1, a2, a3] (r) σ = ev 61 83 [a0, aI l1, a2, a3] (aI l1 :: r) σ := ev_go f_Sh_put_82 rfl
theorem f_Sh_put_83 : fetch 61 83 = some (.lload_n 2) := by decide +kernel
theorem e_Sh_put_83 (a0 a1 a3 : AV) (σ : aM) (l2 : Int64) (r : List AV)  : ev 61 83 [a0, a1, aJ l2, a3] (r) σ = ev 61 84 [a0, a1, aJ l2, a3] (aJ l2 :: r) σ := ev_go f_Sh_put_83 rfl
theorem f_Sh_put_84 : fetch 61 84 = some (.lastore) := by decide +kernel
theorem e_Sh_put_84 (a0 a1 a2 a3 : AV) (σ : aM) (x : Int) (i : Int) (v : Int64) (r : List AV) (h : 0 ≤ x ∧ x < 160) : ev 61 84 [a0, a1, a2, a3] (aJ v :: aI x :: aR 3 i :: r) σ = ev 61 85 [a0, a1, a2, a3] (r) (uL σ 3 i x v) := ev_st1 f_Sh_put_84 rfl rfl (by decide) rfl h
theorem f_Sh_put_85 : fetch 61 85 = some (.return_) := by decide +kernel
theorem e_Sh_put_85 (a0 a1 a2 a3 : AV) (σ : aM)  : ev 61 85 [a0, a1, a2, a3] [] σ = some (none, σ) := ev_ret f_Sh_put_85 rfl
theorem f_Sh_intAt_0 : fetch 62 0 = some (.aload_n 0) := by decide +kernel
theorem e_Sh_intAt_0 (a1 : AV) (σ : aM) (l0 : Option (Nat × Int)) (r : List AV)  : ev 62 0 [aQ l0, a1] (r) σ = ev 62 1 [aQ l0, a1] (aQ l0 :: r) σ := ev_go f_Sh_intAt_0 rfl
theorem f_Sh_intAt_1 : fetch 62 1 = some (.iload_n 1) := by decide +kernel
theorem e_Sh_intAt_1 (a0 : AV) (σ : aM) (l1 : Int) (r : List AV)  : ev 62 1 [a0, aI l1] (r) σ = ev 62 2 [a0, aI l1] (aI l1 :: r) σ := ev_go f_Sh_intAt_1 rfl
theorem f_Sh_intAt_2 : fetch 62 2 = some (.invokevirtual 34) := by decide +kernel
theorem e_Sh_intAt_2 (a0 a1 : AV) (σ : aM) (s0 : Int) (s1 : Int) : ev 62 2 [a0, a1] [aI s1, aR 2 s0] σ = evK 62 5 [a0, a1] [] (ev 59 0 [aR 2 s0, aI s1] [] σ) := ev_call f_Sh_intAt_2 rfl rfl
theorem f_Sh_intAt_5 : fetch 62 5 = some (.ifCond .eq 13) := by decide +kernel
theorem e_Sh_intAt_5 (a0 a1 : AV) (σ : aM) (x : Int) (r : List AV) : ev 62 5 [a0, a1] (aI x :: r) σ = if x = 0 then ev 62 18 [a0, a1] r σ else ev 62 8 [a0, a1] r σ := ev_br f_Sh_intAt_5 rfl bc_eq
theorem f_Sh_intAt_8 : fetch 62 8 = some (.aload_n 0) := by decide +kernel
theorem e_Sh_intAt_8 (a1 : AV) (σ : aM) (l0 : Option (Nat × Int)) (r : List AV)  : ev 62 8 [aQ l0, a1] (r) σ = ev 62 9 [aQ l0, a1] (aQ l0 :: r) σ := ev_go f_Sh_intAt_8 rfl
theorem f_Sh_intAt_9 : fetch 62 9 = some (.getfield 9) := by decide +kernel
theorem e_Sh_intAt_9 (a0 a1 : AV) (σ : aM) (i : Int) (r : List AV)  : ev 62 9 [a0, a1] (aR 2 i :: r) σ = ev 62 12 [a0, a1] (aR 3 i :: r) σ := ev_go f_Sh_intAt_9 rfl
theorem f_Sh_intAt_12 : fetch 62 12 = some (.iload_n 1) := by decide +kernel
theorem e_Sh_intAt_12 (a0 : AV) (σ : aM) (l1 : Int) (r : List AV)  : ev 62 12 [a0, aI l1] (r) σ = ev 62 13 [a0, aI l1] (aI l1 :: r) σ := ev_go f_Sh_intAt_12 rfl
theorem f_Sh_intAt_13 : fetch 62 13 = some (.laload) := by decide +kernel
theorem e_Sh_intAt_13 (a0 a1 : AV) (σ : aM) (x : Int) (i : Int) (r : List AV) (h : 0 ≤ x ∧ x < 160) : ev 62 13 [a0, a1] (aI x :: aR 3 i :: r) σ = ev 62 14 [a0, a1] (aJ (gL σ 3 i x) :: r) σ := ev_ld (j := i) f_Sh_intAt_13 rfl rfl (by decide) rfl h
theorem f_Sh_intAt_14 : fetch 62 14 = some (.l2i) := by decide +kernel
theorem e_Sh_intAt_14 (a0 a1 : AV) (σ : aM) (x : Int64) (r : List AV)  : ev 62 14 [a0, a1] (aJ x :: r) σ = ev 62 15 [a0, a1] (aI (toi x) :: r) σ := ev_go f_Sh_intAt_14 rfl
theorem f_Sh_intAt_15 : fetch 62 15 = some (.goto 4) := by decide +kernel
theorem e_Sh_intAt_15 (a0 a1 : AV) (σ : aM) (r : List AV)  : ev 62 15 [a0, a1] (r) σ = ev 62 19 [a0, a1] (r) σ := ev_go f_Sh_intAt_15 rfl
theorem f_Sh_intAt_18 : fetch 62 18 = some (.iconst 0) := by decide +kernel
theorem e_Sh_intAt_18 (a0 a1 : AV) (σ : aM) (r : List AV)  : ev 62 18 [a0, a1] (r) σ = ev 62 19 [a0, a1] (aI 0 :: r) σ := ev_go f_Sh_intAt_18 rfl
theorem f_Sh_intAt_19 : fetch 62 19 = some (.ireturn) := by decide +kernel
theorem e_Sh_intAt_19 (a0 a1 : AV) (σ : aM) (x : Int) : ev 62 19 [a0, a1] [aI x] σ = some ((some (aI x)), σ) := ev_ret f_Sh_intAt_19 rfl
theorem f_Tr_faultIn_0 : fetch 64 0 = some (.aload_n 0) := by decide +kernel
theorem e_Tr_faultIn_0 (a1 a2 : AV) (σ : aM) (l0 : Option (Nat × Int)) (r : List AV)  : ev 64 0 [aQ l0, a1, a2] (r) σ = ev 64 1 [aQ l0, a1, a2] (aQ l0 :: r) σ := ev_go f_Tr_faultIn_0 rfl
theorem f_Tr_faultIn_1 : fetch 64 1 = some (.iconst 0) := by decide +kernel
theorem e_Tr_faultIn_1 (a0 a1 a2 : AV) (σ : aM) (r : List AV)  : ev 64 1 [a0, a1, a2] (r) σ = ev 64 2 [a0, a1, a2] (aI 0 :: r) σ := ev_go f_Tr_faultIn_1 rfl
theorem f_Tr_faultIn_2 : fetch 64 2 = some (.putfield 27) := by decide +kernel
theorem e_Tr_faultIn_2 (a0 a1 a2 : AV) (σ : aM) (i : Int) (x : Int) (r : List AV)  : ev 64 2 [a0, a1, a2] (aI x :: aR 19 i :: r) σ = ev 64 5 [a0, a1, a2] (r) (uI σ 19 i 5 x) := ev_go f_Tr_faultIn_2 rfl
theorem f_Tr_faultIn_5 : fetch 64 5 = some (.aload_n 0) := by decide +kernel
theorem e_Tr_faultIn_5 (a1 a2 : AV) (σ : aM) (l0 : Option (Nat × Int)) (r : List AV)  : ev 64 5 [aQ l0, a1, a2] (r) σ = ev 64 6 [aQ l0, a1, a2] (aQ l0 :: r) σ := ev_go f_Tr_faultIn_5 rfl
theorem f_Tr_faultIn_6 : fetch 64 6 = some (.iconst 0) := by decide +kernel
theorem e_Tr_faultIn_6 (a0 a1 a2 : AV) (σ : aM) (r : List AV)  : ev 64 6 [a0, a1, a2] (r) σ = ev 64 7 [a0, a1, a2] (aI 0 :: r) σ := ev_go f_Tr_faultIn_6 rfl
theorem f_Tr_faultIn_7 : fetch 64 7 = some (.putfield 31) := by decide +kernel
theorem e_Tr_faultIn_7 (a0 a1 a2 : AV) (σ : aM) (i : Int) (x : Int) (r : List AV)  : ev 64 7 [a0, a1, a2] (aI x :: aR 19 i :: r) σ = ev 64 10 [a0, a1, a2] (r) (uI σ 19 i 6 x) := ev_go f_Tr_faultIn_7 rfl
theorem f_Tr_faultIn_10 : fetch 64 10 = some (.aload_n 0) := by decide +kernel
theorem e_Tr_faultIn_10 (a1 a2 : AV) (σ : aM) (l0 : Option (Nat × Int)) (r : List AV)  : ev 64 10 [aQ l0, a1, a2] (r) σ = ev 64 11 [aQ l0, a1, a2] (aQ l0 :: r) σ := ev_go f_Tr_faultIn_10 rfl
theorem f_Tr_faultIn_11 : fetch 64 11 = some (.iconst (-1)) := by decide +kernel
theorem e_Tr_faultIn_11 (a0 a1 a2 : AV) (σ : aM) (r : List AV)  : ev 64 11 [a0, a1, a2] (r) σ = ev 64 12 [a0, a1, a2] (aI (-1) :: r) σ := ev_go f_Tr_faultIn_11 rfl
theorem f_Tr_faultIn_12 : fetch 64 12 = some (.putfield 34) := by decide +kernel
theorem e_Tr_faultIn_12 (a0 a1 a2 : AV) (σ : aM) (i : Int) (x : Int) (r : List AV)  : ev 64 12 [a0, a1, a2] (aI x :: aR 19 i :: r) σ = ev 64 15 [a0, a1, a2] (r) (uI σ 19 i 7 x) := ev_go f_Tr_faultIn_12 rfl
theorem f_Tr_faultIn_15 : fetch 64 15 = some (.iconst 0) := by decide +kernel
theorem e_Tr_faultIn_15 (a0 a1 a2 : AV) (σ : aM) (r : List AV)  : ev 64 15 [a0, a1, a2] (r) σ = ev 64 16 [a0, a1, a2] (aI 0 :: r) σ := ev_go f_Tr_faultIn_15 rfl
theorem f_Tr_faultIn_16 : fetch 64 16 = some (.istore_n 2) := by decide +kernel
theorem e_Tr_faultIn_16 (a0 a2 : AV) (σ : aM) (x : Int) (l1 : Option (Nat × Int)) (r : List AV)  : ev 64 16 [a0, aQ l1, a2] (aI x :: r) σ = ev 64 17 [a0, aQ l1, aI x] (r) σ := ev_go f_Tr_faultIn_16 rfl
theorem f_Tr_faultIn_17 : fetch 64 17 = some (.iload_n 2) := by decide +kernel
theorem e_Tr_faultIn_17 (a0 a1 : AV) (σ : aM) (l2 : Int) (r : List AV)  : ev 64 17 [a0, a1, aI l2] (r) σ = ev 64 18 [a0, a1, aI l2] (aI l2 :: r) σ := ev_go f_Tr_faultIn_17 rfl
theorem f_Tr_faultIn_18 : fetch 64 18 = some (.bipush 27) := by decide +kernel
theorem e_Tr_faultIn_18 (a0 a1 a2 : AV) (σ : aM) (r : List AV)  : ev 64 18 [a0, a1, a2] (r) σ = ev 64 20 [a0, a1, a2] (aI 27 :: r) σ := ev_go f_Tr_faultIn_18 rfl
theorem f_Tr_faultIn_20 : fetch 64 20 = some (.if_icmp .ge 45) := by decide +kernel
theorem e_Tr_faultIn_20 (a0 a1 a2 : AV) (σ : aM) (x z : Int) (r : List AV) : ev 64 20 [a0, a1, a2] (aI z :: aI x :: r) σ = if z ≤ x then ev 64 65 [a0, a1, a2] r σ else ev 64 23 [a0, a1, a2] r σ := ev_br f_Tr_faultIn_20 rfl bc_ge
theorem f_Tr_faultIn_23 : fetch 64 23 = some (.aload_n 0) := by decide +kernel
theorem e_Tr_faultIn_23 (a1 a2 : AV) (σ : aM) (l0 : Option (Nat × Int)) (r : List AV)  : ev 64 23 [aQ l0, a1, a2] (r) σ = ev 64 24 [aQ l0, a1, a2] (aQ l0 :: r) σ := ev_go f_Tr_faultIn_23 rfl
theorem f_Tr_faultIn_24 : fetch 64 24 = some (.aload_n 1) := by decide +kernel
theorem e_Tr_faultIn_24 (a0 a2 : AV) (σ : aM) (l1 : Option (Nat × Int)) (r : List AV)  : ev 64 24 [a0, aQ l1, a2] (r) σ = ev 64 25 [a0, aQ l1, a2] (aQ l1 :: r) σ := ev_go f_Tr_faultIn_24 rfl
theorem f_Tr_faultIn_25 : fetch 64 25 = some (.invokevirtual 37) := by decide +kernel
theorem e_Tr_faultIn_25 (a0 a1 a2 : AV) (σ : aM) (s0 : Int) (s1 : Option (Nat × Int)) : ev 64 25 [a0, a1, a2] [aQ s1, aR 19 s0] σ = evK 64 28 [a0, a1, a2] [] (ev 65 0 [aR 19 s0, aQ s1, aU, aU, aU, aU, aU] [] σ) := ev_call f_Tr_faultIn_25 rfl rfl
theorem f_Tr_faultIn_28 : fetch 64 28 = some (.aload_n 0) := by decide +kernel
theorem e_Tr_faultIn_28 (a1 a2 : AV) (σ : aM) (l0 : Option (Nat × Int)) (r : List AV)  : ev 64 28 [aQ l0, a1, a2] (r) σ = ev 64 29 [aQ l0, a1, a2] (aQ l0 :: r) σ := ev_go f_Tr_faultIn_28 rfl
theorem f_Tr_faultIn_29 : fetch 64 29 = some (.getfield 34) := by decide +kernel
theorem e_Tr_faultIn_29 (a0 a1 a2 : AV) (σ : aM) (i : Int) (r : List AV)  : ev 64 29 [a0, a1, a2] (aR 19 i :: r) σ = ev 64 32 [a0, a1, a2] (aI (gI σ 19 i 7) :: r) σ := ev_go f_Tr_faultIn_29 rfl
theorem f_Tr_faultIn_32 : fetch 64 32 = some (.iconst (-1)) := by decide +kernel
theorem e_Tr_faultIn_32 (a0 a1 a2 : AV) (σ : aM) (r : List AV)  : ev 64 32 [a0, a1, a2] (r) σ = ev 64 33 [a0, a1, a2] (aI (-1) :: r) σ := ev_go f_Tr_faultIn_32 rfl
theorem f_Tr_faultIn_33 : fetch 64 33 = some (.if_icmp .ne 14) := by decide +kernel
theorem e_Tr_faultIn_33 (a0 a1 a2 : AV) (σ : aM) (x z : Int) (r : List AV) : ev 64 33 [a0, a1, a2] (aI z :: aI x :: r) σ = if ¬ x = z then ev 64 47 [a0, a1, a2] r σ else ev 64 36 [a0, a1, a2] r σ := ev_br f_Tr_faultIn_33 rfl bc_ne
theorem f_Tr_faultIn_36 : fetch 64 36 = some (.aload_n 0) := by decide +kernel
theorem e_Tr_faultIn_36 (a1 a2 : AV) (σ : aM) (l0 : Option (Nat × Int)) (r : List AV)  : ev 64 36 [aQ l0, a1, a2] (r) σ = ev 64 37 [aQ l0, a1, a2] (aQ l0 :: r) σ := ev_go f_Tr_faultIn_36 rfl
theorem f_Tr_faultIn_37 : fetch 64 37 = some (.getfield 31) := by decide +kernel
theorem e_Tr_faultIn_37 (a0 a1 a2 : AV) (σ : aM) (i : Int) (r : List AV)  : ev 64 37 [a0, a1, a2] (aR 19 i :: r) σ = ev 64 40 [a0, a1, a2] (aI (gI σ 19 i 6) :: r) σ := ev_go f_Tr_faultIn_37 rfl
theorem f_Tr_faultIn_40 : fetch 64 40 = some (.aload_n 1) := by decide +kernel
theorem e_Tr_faultIn_40 (a0 a2 : AV) (σ : aM) (l1 : Option (Nat × Int)) (r : List AV)  : ev 64 40 [a0, aQ l1, a2] (r) σ = ev 64 41 [a0, aQ l1, a2] (aQ l1 :: r) σ := ev_go f_Tr_faultIn_40 rfl
theorem f_Tr_faultIn_41 : fetch 64 41 = some (.getfield 41) := by decide +kernel
theorem e_Tr_faultIn_41 (a0 a1 a2 : AV) (σ : aM) (i : Int) (r : List AV)  : ev 64 41 [a0, a1, a2] (aR 2 i :: r) σ = ev 64 44 [a0, a1, a2] (aI (gI σ 2 i 1) :: r) σ := ev_go f_Tr_faultIn_41 rfl
theorem f_Tr_faultIn_44 : fetch 64 44 = some (.if_icmp .lt 8) := by decide +kernel
theorem e_Tr_faultIn_44 (a0 a1 a2 : AV) (σ : aM) (x z : Int) (r : List AV) : ev 64 44 [a0, a1, a2] (aI z :: aI x :: r) σ = if x < z then ev 64 52 [a0, a1, a2] r σ else ev 64 47 [a0, a1, a2] r σ := ev_br f_Tr_faultIn_44 rfl bc_lt
theorem f_Tr_faultIn_47 : fetch 64 47 = some (.aload_n 0) := by decide +kernel
theorem e_Tr_faultIn_47 (a1 a2 : AV) (σ : aM) (l0 : Option (Nat × Int)) (r : List AV)  : ev 64 47 [aQ l0, a1, a2] (r) σ = ev 64 48 [aQ l0, a1, a2] (aQ l0 :: r) σ := ev_go f_Tr_faultIn_47 rfl
theorem f_Tr_faultIn_48 : fetch 64 48 = some (.getfield 34) := by decide +kernel
theorem e_Tr_faultIn_48 (a0 a1 a2 : AV) (σ : aM) (i : Int) (r : List AV)  : ev 64 48 [a0, a1, a2] (aR 19 i :: r) σ = ev 64 51 [a0, a1, a2] (aI (gI σ 19 i 7) :: r) σ := ev_go f_Tr_faultIn_48 rfl
theorem f_Tr_faultIn_51 : fetch 64 51 = some (.ireturn) := by decide +kernel
theorem e_Tr_faultIn_51 (a0 a1 a2 : AV) (σ : aM) (x : Int) : ev 64 51 [a0, a1, a2] [aI x] σ = some ((some (aI x)), σ) := ev_ret f_Tr_faultIn_51 rfl
theorem f_Tr_faultIn_52 : fetch 64 52 = some (.aload_n 0) := by decide +kernel
theorem e_Tr_faultIn_52 (a1 a2 : AV) (σ : aM) (l0 : Option (Nat × Int)) (r : List AV)  : ev 64 52 [aQ l0, a1, a2] (r) σ = ev 64 53 [aQ l0, a1, a2] (aQ l0 :: r) σ := ev_go f_Tr_faultIn_52 rfl
theorem f_Tr_faultIn_53 : fetch 64 53 = some (.aload_n 1) := by decide +kernel
theorem e_Tr_faultIn_53 (a0 a2 : AV) (σ : aM) (l1 : Option (Nat × Int)) (r : List AV)  : ev 64 53 [a0, aQ l1, a2] (r) σ = ev 64 54 [a0, aQ l1, a2] (aQ l1 :: r) σ := ev_go f_Tr_faultIn_53 rfl
theorem f_Tr_faultIn_54 : fetch 64 54 = some (.bipush 59) := by decide +kernel
theorem e_Tr_faultIn_54 (a0 a1 a2 : AV) (σ : aM) (r : List AV)  : ev 64 54 [a0, a1, a2] (r) σ = ev 64 56 [a0, a1, a2] (aI 59 :: r) σ := ev_go f_Tr_faultIn_54 rfl
theorem f_Tr_faultIn_56 : fetch 64 56 = some (.invokevirtual 46) := by decide +kernel
theorem e_Tr_faultIn_56 (a0 a1 a2 : AV) (σ : aM) (s0 : Int) (s1 : Option (Nat × Int)) (s2 : Int) : ev 64 56 [a0, a1, a2] [aI s2, aQ s1, aR 19 s0] σ = evK 64 59 [a0, a1, a2] [] (ev 67 0 [aR 19 s0, aQ s1, aI s2] [] σ) := ev_call f_Tr_faultIn_56 rfl rfl
theorem f_Tr_faultIn_59 : fetch 64 59 = some (.iinc 2 1) := by decide +kernel
theorem e_Tr_faultIn_59 (a0 : AV) (σ : aM) (l2 : Int) (l1 : Option (Nat × Int)) (r : List AV)  : ev 64 59 [a0, aQ l1, aI l2] (r) σ = ev 64 62 [a0, aQ l1, aI (wr (l2 + 1))] (r) σ := ev_go f_Tr_faultIn_59 rfl
theorem f_Tr_faultIn_62 : fetch 64 62 = some (.goto (-45)) := by decide +kernel
theorem e_Tr_faultIn_62 (a0 a1 a2 : AV) (σ : aM) (r : List AV)  : ev 64 62 [a0, a1, a2] (r) σ = ev 64 17 [a0, a1, a2] (r) σ := ev_go f_Tr_faultIn_62 rfl
theorem f_Tr_faultIn_65 : fetch 64 65 = some (.aload_n 0) := by decide +kernel
theorem e_Tr_faultIn_65 (a1 a2 : AV) (σ : aM) (l0 : Option (Nat × Int)) (r : List AV)  : ev 64 65 [aQ l0, a1, a2] (r) σ = ev 64 66 [aQ l0, a1, a2] (aQ l0 :: r) σ := ev_go f_Tr_faultIn_65 rfl
theorem f_Tr_faultIn_66 : fetch 64 66 = some (.getfield 34) := by decide +kernel
theorem e_Tr_faultIn_66 (a0 a1 a2 : AV) (σ : aM) (i : Int) (r : List AV)  : ev 64 66 [a0, a1, a2] (aR 19 i :: r) σ = ev 64 69 [a0, a1, a2] (aI (gI σ 19 i 7) :: r) σ := ev_go f_Tr_faultIn_66 rfl
theorem f_Tr_faultIn_69 : fetch 64 69 = some (.ireturn) := by decide +kernel
theorem e_Tr_faultIn_69 (a0 a1 a2 : AV) (σ : aM) (x : Int) : ev 64 69 [a0, a1, a2] [aI x] σ = some ((some (aI x)), σ) := ev_ret f_Tr_faultIn_69 rfl
theorem f_Tr_takeItem_0 : fetch 65 0 = some (.aload_n 0) := by decide +kernel
theorem e_Tr_takeItem_0 (a1 a2 a3 a4 a5 a6 : AV) (σ : aM) (l0 : Option (Nat × Int)) (r : List AV)  : ev 65 0 [aQ l0, a1, a2, a3, a4, a5, a6] (r) σ = ev 65 1 [aQ l0, a1, a2, a3, a4, a5, a6] (aQ l0 :: r) σ := ev_go f_Tr_takeItem_0 rfl
theorem f_Tr_takeItem_1 : fetch 65 1 = some (.aload_n 1) := by decide +kernel
theorem e_Tr_takeItem_1 (a0 a2 a3 a4 a5 a6 : AV) (σ : aM) (l1 : Option (Nat × Int)) (r : List AV)  : ev 65 1 [a0, aQ l1, a2, a3, a4, a5, a6] (r) σ = ev 65 2 [a0, aQ l1, a2, a3, a4, a5, a6] (aQ l1 :: r) σ := ev_go f_Tr_takeItem_1 rfl
theorem f_Tr_takeItem_2 : fetch 65 2 = some (.bipush 97) := by decide +kernel
theorem e_Tr_takeItem_2 (a0 a1 a2 a3 a4 a5 a6 : AV) (σ : aM) (r : List AV)  : ev 65 2 [a0, a1, a2, a3, a4, a5, a6] (r) σ = ev 65 4 [a0, a1, a2, a3, a4, a5, a6] (aI 97 :: r) σ := ev_go f_Tr_takeItem_2 rfl
theorem f_Tr_takeItem_4 : fetch 65 4 = some (.bipush 104) := by decide +kernel
theorem e_Tr_takeItem_4 (a0 a1 a2 a3 a4 a5 a6 : AV) (σ : aM) (r : List AV)  : ev 65 4 [a0, a1, a2, a3, a4, a5, a6] (r) σ = ev 65 6 [a0, a1, a2, a3, a4, a5, a6] (aI 104 :: r) σ := ev_go f_Tr_takeItem_4 rfl
theorem f_Tr_takeItem_6 : fetch 65 6 = some (.invokevirtual 50) := by decide +kernel
theorem e_Tr_takeItem_6 (a0 a1 a2 a3 a4 a5 a6 : AV) (σ : aM) (s0 : Int) (s1 : Option (Nat × Int)) (s2 : Int) (s3 : Int) : ev 65 6 [a0, a1, a2, a3, a4, a5, a6] [aI s3, aI s2, aQ s1, aR 19 s0] σ = evK 65 9 [a0, a1, a2, a3, a4, a5, a6] [] (ev 68 0 [aR 19 s0, aQ s1, aI s2, aI s3, aU] [] σ) := ev_call f_Tr_takeItem_6 rfl rfl
theorem f_Tr_takeItem_9 : fetch 65 9 = some (.bipush 97) := by decide +kernel
theorem e_Tr_takeItem_9 (a0 a1 a2 a3 a4 a5 a6 : AV) (σ : aM) (r : List AV)  : ev 65 9 [a0, a1, a2, a3, a4, a5, a6] (r) σ = ev 65 11 [a0, a1, a2, a3, a4, a5, a6] (aI 97 :: r) σ := ev_go f_Tr_takeItem_9 rfl
theorem f_Tr_takeItem_11 : fetch 65 11 = some (.isub) := by decide +kernel
theorem e_Tr_takeItem_11 (a0 a1 a2 a3 a4 a5 a6 : AV) (σ : aM) (x z : Int) (r : List AV)  : ev 65 11 [a0, a1, a2, a3, a4, a5, a6] (aI z :: aI x :: r) σ = ev 65 12 [a0, a1, a2, a3, a4, a5, a6] (aI (wr (x - z)) :: r) σ := ev_go f_Tr_takeItem_11 rfl
theorem f_Tr_takeItem_12 : fetch 65 12 = some (.istore_n 2) := by decide +kernel
theorem e_Tr_takeItem_12 (a0 a2 a3 a4 a5 a6 : AV) (σ : aM) (x : Int) (l1 : Option (Nat × Int)) (r : List AV)  : ev 65 12 [a0, aQ l1, a2, a3, a4, a5, a6] (aI x :: r) σ = ev 65 13 [a0, aQ l1, aI x, a3, a4, a5, a6] (r) σ := ev_go f_Tr_takeItem_12 rfl
theorem f_Tr_takeItem_13 : fetch 65 13 = some (.aload_n 0) := by decide +kernel
theorem e_Tr_takeItem_13 (a1 a2 a3 a4 a5 a6 : AV) (σ : aM) (l0 : Option (Nat × Int)) (r : List AV)  : ev 65 13 [aQ l0, a1, a2, a3, a4, a5, a6] (r) σ = ev 65 14 [aQ l0, a1, a2, a3, a4, a5, a6] (aQ l0 :: r) σ := ev_go f_Tr_takeItem_13 rfl
theorem f_Tr_takeItem_14 : fetch 65 14 = some (.aload_n 1) := by decide +kernel
theorem e_Tr_takeItem_14 (a0 a2 a3 a4 a5 a6 : AV) (σ : aM) (l1 : Option (Nat × Int)) (r : List AV)  : ev 65 14 [a0, aQ l1, a2, a3, a4, a5, a6] (r) σ = ev 65 15 [a0, aQ l1, a2, a3, a4, a5, a6] (aQ l1 :: r) σ := ev_go f_Tr_takeItem_14 rfl
theorem f_Tr_takeItem_15 : fetch 65 15 = some (.invokevirtual 54) := by decide +kernel
theorem e_Tr_takeItem_15 (a0 a1 a2 a3 a4 a5 a6 : AV) (σ : aM) (s0 : Int) (s1 : Option (Nat × Int)) : ev 65 15 [a0, a1, a2, a3, a4, a5, a6] [aQ s1, aR 19 s0] σ = evK 65 18 [a0, a1, a2, a3, a4, a5, a6] [] (ev 66 0 [aR 19 s0, aQ s1] [] σ) := ev_call f_Tr_takeItem_15 rfl rfl
theorem f_Tr_takeItem_18 : fetch 65 18 = some (.bipush 45) := by decide +kernel
theorem e_Tr_takeItem_18 (a0 a1 a2 a3 a4 a5 a6 : AV) (σ : aM) (r : List AV)  : ev 65 18 [a0, a1, a2, a3, a4, a5, a6] (r) σ = ev 65 20 [a0, a1, a2, a3, a4, a5, a6] (aI 45 :: r) σ := ev_go f_Tr_takeItem_18 rfl
theorem f_Tr_takeItem_20 : fetch 65 20 = some (.if_icmp .ne 7) := by decide +kernel
theorem e_Tr_takeItem_20 (a0 a1 a2 a3 a4 a5 a6 : AV) (σ : aM) (x z : Int) (r : List AV) : ev 65 20 [a0, a1, a2, a3, a4, a5, a6] (aI z :: aI x :: r) σ = if ¬ x = z then ev 65 27 [a0, a1, a2, a3, a4, a5, a6] r σ else ev 65 23 [a0, a1, a2, a3, a4, a5, a6] r σ := ev_br f_Tr_takeItem_20 rfl bc_ne
theorem f_Tr_takeItem_23 : fetch 65 23 = some (.iconst 1) := by decide +kernel
theorem e_Tr_takeItem_23 (a0 a1 a2 a3 a4 a5 a6 : AV) (σ : aM) (r : List AV)  : ev 65 23 [a0, a1, a2, a3, a4, a5, a6] (r) σ = ev 65 24 [a0, a1, a2, a3, a4, a5, a6] (aI 1 :: r) σ := ev_go f_Tr_takeItem_23 rfl
theorem f_Tr_takeItem_24 : fetch 65 24 = some (.goto 4) := by decide +kernel
theorem e_Tr_takeItem_24 (a0 a1 a2 a3 a4 a5 a6 : AV) (σ : aM) (r : List AV)  : ev 65 24 [a0, a1, a2, a3, a4, a5, a6] (r) σ = ev 65 28 [a0, a1, a2, a3, a4, a5, a6] (r) σ := ev_go f_Tr_takeItem_24 rfl
theorem f_Tr_takeItem_27 : fetch 65 27 = some (.iconst 0) := by decide +kernel
theorem e_Tr_takeItem_27 (a0 a1 a2 a3 a4 a5 a6 : AV) (σ : aM) (r : List AV)  : ev 65 27 [a0, a1, a2, a3, a4, a5, a6] (r) σ = ev 65 28 [a0, a1, a2, a3, a4, a5, a6] (aI 0 :: r) σ := ev_go f_Tr_takeItem_27 rfl
theorem f_Tr_takeItem_28 : fetch 65 28 = some (.istore_n 3) := by decide +kernel
theorem e_Tr_takeItem_28 (a0 a1 a3 a4 a5 a6 : AV) (σ : aM) (x : Int) (l2 : Int) (r : List AV)  : ev 65 28 [a0, a1, aI l2, a3, a4, a5, a6] (aI x :: r) σ = ev 65 29 [a0, a1, aI l2, aI x, a4, a5, a6] (r) σ := ev_go f_Tr_takeItem_28 rfl
theorem f_Tr_takeItem_29 : fetch 65 29 = some (.aload_n 0) := by decide +kernel
theorem e_Tr_takeItem_29 (a1 a2 a3 a4 a5 a6 : AV) (σ : aM) (l0 : Option (Nat × Int)) (r : List AV)  : ev 65 29 [aQ l0, a1, a2, a3, a4, a5, a6] (r) σ = ev 65 30 [aQ l0, a1, a2, a3, a4, a5, a6] (aQ l0 :: r) σ := ev_go f_Tr_takeItem_29 rfl
theorem f_Tr_takeItem_30 : fetch 65 30 = some (.aload_n 1) := by decide +kernel
theorem e_Tr_takeItem_30 (a0 a2 a3 a4 a5 a6 : AV) (σ : aM) (l1 : Option (Nat × Int)) (r : List AV)  : ev 65 30 [a0, aQ l1, a2, a3, a4, a5, a6] (r) σ = ev 65 31 [a0, aQ l1, a2, a3, a4, a5, a6] (aQ l1 :: r) σ := ev_go f_Tr_takeItem_30 rfl
theorem f_Tr_takeItem_31 : fetch 65 31 = some (.iload_n 3) := by decide +kernel
theorem e_Tr_takeItem_31 (a0 a1 a2 a4 a5 a6 : AV) (σ : aM) (l3 : Int) (r : List AV)  : ev 65 31 [a0, a1, a2, aI l3, a4, a5, a6] (r) σ = ev 65 32 [a0, a1, a2, aI l3, a4, a5, a6] (aI l3 :: r) σ := ev_go f_Tr_takeItem_31 rfl
theorem f_Tr_takeItem_32 : fetch 65 32 = some (.iconst 1) := by decide +kernel
theorem e_Tr_takeItem_32 (a0 a1 a2 a3 a4 a5 a6 : AV) (σ : aM) (r : List AV)  : ev 65 32 [a0, a1, a2, a3, a4, a5, a6] (r) σ = ev 65 33 [a0, a1, a2, a3, a4, a5, a6] (aI 1 :: r) σ := ev_go f_Tr_takeItem_32 rfl
theorem f_Tr_takeItem_33 : fetch 65 33 = some (.if_icmp .ne 8) := by decide +kernel
theorem e_Tr_takeItem_33 (a0 a1 a2 a3 a4 a5 a6 : AV) (σ : aM) (x z : Int) (r : List AV) : ev 65 33 [a0, a1, a2, a3, a4, a5, a6] (aI z :: aI x :: r) σ = if ¬ x = z then ev 65 41 [a0, a1, a2, a3, a4, a5, a6] r σ else ev 65 36 [a0, a1, a2, a3, a4, a5, a6] r σ := ev_br f_Tr_takeItem_33 rfl bc_ne
theorem f_Tr_takeItem_36 : fetch 65 36 = some (.bipush 45) := by decide +kernel
theorem e_Tr_takeItem_36 (a0 a1 a2 a3 a4 a5 a6 : AV) (σ : aM) (r : List AV)  : ev 65 36 [a0, a1, a2, a3, a4, a5, a6] (r) σ = ev 65 38 [a0, a1, a2, a3, a4, a5, a6] (aI 45 :: r) σ := ev_go f_Tr_takeItem_36 rfl
theorem f_Tr_takeItem_38 : fetch 65 38 = some (.goto 5) := by decide +kernel
theorem e_Tr_takeItem_38 (a0 a1 a2 a3 a4 a5 a6 : AV) (σ : aM) (r : List AV)  : ev 65 38 [a0, a1, a2, a3, a4, a5, a6] (r) σ = ev 65 43 [a0, a1, a2, a3, a4, a5, a6] (r) σ := ev_go f_Tr_takeItem_38 rfl
theorem f_Tr_takeItem_41 : fetch 65 41 = some (.bipush 43) := by decide +kernel
theorem e_Tr_takeItem_41 (a0 a1 a2 a3 a4 a5 a6 : AV) (σ : aM) (r : List AV)  : ev 65 41 [a0, a1, a2, a3, a4, a5, a6] (r) σ = ev 65 43 [a0, a1, a2, a3, a4, a5, a6] (aI 43 :: r) σ := ev_go f_Tr_takeItem_41 rfl
theorem f_Tr_takeItem_43 : fetch 65 43 = some (.invokevirtual 46) := by decide +kernel
theorem e_Tr_takeItem_43 (a0 a1 a2 a3 a4 a5 a6 : AV) (σ : aM) (s0 : Int) (s1 : Option (Nat × Int)) (s2 : Int) : ev 65 43 [a0, a1, a2, a3, a4, a5, a6] [aI s2, aQ s1, aR 19 s0] σ = evK 65 46 [a0, a1, a2, a3, a4, a5, a6] [] (ev 67 0 [aR 19 s0, aQ s1, aI s2] [] σ) := ev_call f_Tr_takeItem_43 rfl rfl
theorem f_Tr_takeItem_46 : fetch 65 46 = some (.aload_n 0) := by decide +kernel
theorem e_Tr_takeItem_46 (a1 a2 a3 a4 a5 a6 : AV) (σ : aM) (l0 : Option (Nat × Int)) (r : List AV)  : ev 65 46 [aQ l0, a1, a2, a3, a4, a5, a6] (r) σ = ev 65 47 [aQ l0, a1, a2, a3, a4, a5, a6] (aQ l0 :: r) σ := ev_go f_Tr_takeItem_46 rfl
theorem f_Tr_takeItem_47 : fetch 65 47 = some (.aload_n 1) := by decide +kernel
theorem e_Tr_takeItem_47 (a0 a2 a3 a4 a5 a6 : AV) (σ : aM) (l1 : Option (Nat × Int)) (r : List AV)  : ev 65 47 [a0, aQ l1, a2, a3, a4, a5, a6] (r) σ = ev 65 48 [a0, aQ l1, a2, a3, a4, a5, a6] (aQ l1 :: r) σ := ev_go f_Tr_takeItem_47 rfl
theorem f_Tr_takeItem_48 : fetch 65 48 = some (.invokevirtual 58) := by decide +kernel
theorem e_Tr_takeItem_48 (a0 a1 a2 a3 a4 a5 a6 : AV) (σ : aM) (s0 : Int) (s1 : Option (Nat × Int)) : ev 65 48 [a0, a1, a2, a3, a4, a5, a6] [aQ s1, aR 19 s0] σ = evK 65 51 [a0, a1, a2, a3, a4, a5, a6] [] (ev 69 0 [aR 19 s0, aQ s1, aU, aU, aU] [] σ) := ev_call f_Tr_takeItem_48 rfl rfl
theorem f_Tr_takeItem_51 : fetch 65 51 = some (.istore 4) := by decide +kernel
theorem e_Tr_takeItem_51 (a0 a1 a2 a4 a5 a6 : AV) (σ : aM) (x : Int) (l3 : Int) (r : List AV)  : ev 65 51 [a0, a1, a2, aI l3, a4, a5, a6] (aI x :: r) σ = ev 65 53 [a0, a1, a2, aI l3, aI x, a5, a6] (r) σ := ev_go f_Tr_takeItem_51 rfl
theorem f_Tr_takeItem_53 : fetch 65 53 = some (.aload_n 0) := by decide +kernel
theorem e_Tr_takeItem_53 (a1 a2 a3 a4 a5 a6 : AV) (σ : aM) (l0 : Option (Nat × Int)) (r : List AV)  : ev 65 53 [aQ l0, a1, a2, a3, a4, a5, a6] (r) σ = ev 65 54 [aQ l0, a1, a2, a3, a4, a5, a6] (aQ l0 :: r) σ := ev_go f_Tr_takeItem_53 rfl
theorem f_Tr_takeItem_54 : fetch 65 54 = some (.aload_n 1) := by decide +kernel
theorem e_Tr_takeItem_54 (a0 a2 a3 a4 a5 a6 : AV) (σ : aM) (l1 : Option (Nat × Int)) (r : List AV)  : ev 65 54 [a0, aQ l1, a2, a3, a4, a5, a6] (r) σ = ev 65 55 [a0, aQ l1, a2, a3, a4, a5, a6] (aQ l1 :: r) σ := ev_go f_Tr_takeItem_54 rfl
theorem f_Tr_takeItem_55 : fetch 65 55 = some (.bipush 64) := by decide +kernel
theorem e_Tr_takeItem_55 (a0 a1 a2 a3 a4 a5 a6 : AV) (σ : aM) (r : List AV)  : ev 65 55 [a0, a1, a2, a3, a4, a5, a6] (r) σ = ev 65 57 [a0, a1, a2, a3, a4, a5, a6] (aI 64 :: r) σ := ev_go f_Tr_takeItem_55 rfl
theorem f_Tr_takeItem_57 : fetch 65 57 = some (.invokevirtual 46) := by decide +kernel
theorem e_Tr_takeItem_57 (a0 a1 a2 a3 a4 a5 a6 : AV) (σ : aM) (s0 : Int) (s1 : Option (Nat × Int)) (s2 : Int) : ev 65 57 [a0, a1, a2, a3, a4, a5, a6] [aI s2, aQ s1, aR 19 s0] σ = evK 65 60 [a0, a1, a2, a3, a4, a5, a6] [] (ev 67 0 [aR 19 s0, aQ s1, aI s2] [] σ) := ev_call f_Tr_takeItem_57 rfl rfl
theorem f_Tr_takeItem_60 : fetch 65 60 = some (.aload_n 0) := by decide +kernel
theorem e_Tr_takeItem_60 (a1 a2 a3 a4 a5 a6 : AV) (σ : aM) (l0 : Option (Nat × Int)) (r : List AV)  : ev 65 60 [aQ l0, a1, a2, a3, a4, a5, a6] (r) σ = ev 65 61 [aQ l0, a1, a2, a3, a4, a5, a6] (aQ l0 :: r) σ := ev_go f_Tr_takeItem_60 rfl
theorem f_Tr_takeItem_61 : fetch 65 61 = some (.aload_n 1) := by decide +kernel
theorem e_Tr_takeItem_61 (a0 a2 a3 a4 a5 a6 : AV) (σ : aM) (l1 : Option (Nat × Int)) (r : List AV)  : ev 65 61 [a0, aQ l1, a2, a3, a4, a5, a6] (r) σ = ev 65 62 [a0, aQ l1, a2, a3, a4, a5, a6] (aQ l1 :: r) σ := ev_go f_Tr_takeItem_61 rfl
theorem f_Tr_takeItem_62 : fetch 65 62 = some (.invokevirtual 58) := by decide +kernel
theorem e_Tr_takeItem_62 (a0 a1 a2 a3 a4 a5 a6 : AV) (σ : aM) (s0 : Int) (s1 : Option (Nat × Int)) : ev 65 62 [a0, a1, a2, a3, a4, a5, a6] [aQ s1, aR 19 s0] σ = evK 65 65 [a0, a1, a2, a3, a4, a5, a6] [] (ev 69 0 [aR 19 s0, aQ s1, aU, aU, aU] [] σ) := ev_call f_Tr_takeItem_62 rfl rfl
theorem f_Tr_takeItem_65 : fetch 65 65 = some (.istore 5) := by decide +kernel
theorem e_Tr_takeItem_65 (a0 a1 a2 a3 a5 a6 : AV) (σ : aM) (x : Int) (l4 : Int) (r : List AV)  : ev 65 65 [a0, a1, a2, a3, aI l4, a5, a6] (aI x :: r) σ = ev 65 67 [a0, a1, a2, a3, aI l4, aI x, a6] (r) σ := ev_go f_Tr_takeItem_65 rfl
theorem f_Tr_takeItem_67 : fetch 65 67 = some (.iconst 0) := by decide +kernel
theorem e_Tr_takeItem_67 (a0 a1 a2 a3 a4 a5 a6 : AV) (σ : aM) (r : List AV)  : ev 65 67 [a0, a1, a2, a3, a4, a5, a6] (r) σ = ev 65 68 [a0, a1, a2, a3, a4, a5, a6] (aI 0 :: r) σ := ev_go f_Tr_takeItem_67 rfl
theorem f_Tr_takeItem_68 : fetch 65 68 = some (.istore 6) := by decide +kernel
theorem e_Tr_takeItem_68 (a0 a1 a2 a3 a4 a6 : AV) (σ : aM) (x : Int) (l5 : Int) (r : List AV)  : ev 65 68 [a0, a1, a2, a3, a4, aI l5, a6] (aI x :: r) σ = ev 65 70 [a0, a1, a2, a3, a4, aI l5, aI x] (r) σ := ev_go f_Tr_takeItem_68 rfl
theorem f_Tr_takeItem_70 : fetch 65 70 = some (.aload_n 0) := by decide +kernel
theorem e_Tr_takeItem_70 (a1 a2 a3 a4 a5 a6 : AV) (σ : aM) (l0 : Option (Nat × Int)) (r : List AV)  : ev 65 70 [aQ l0, a1, a2, a3, a4, a5, a6] (r) σ = ev 65 71 [aQ l0, a1, a2, a3, a4, a5, a6] (aQ l0 :: r) σ := ev_go f_Tr_takeItem_70 rfl
theorem f_Tr_takeItem_71 : fetch 65 71 = some (.aload_n 1) := by decide +kernel
theorem e_Tr_takeItem_71 (a0 a2 a3 a4 a5 a6 : AV) (σ : aM) (l1 : Option (Nat × Int)) (r : List AV)  : ev 65 71 [a0, aQ l1, a2, a3, a4, a5, a6] (r) σ = ev 65 72 [a0, aQ l1, a2, a3, a4, a5, a6] (aQ l1 :: r) σ := ev_go f_Tr_takeItem_71 rfl
theorem f_Tr_takeItem_72 : fetch 65 72 = some (.invokevirtual 54) := by decide +kernel
theorem e_Tr_takeItem_72 (a0 a1 a2 a3 a4 a5 a6 : AV) (σ : aM) (s0 : Int) (s1 : Option (Nat × Int)) : ev 65 72 [a0, a1, a2, a3, a4, a5, a6] [aQ s1, aR 19 s0] σ = evK 65 75 [a0, a1, a2, a3, a4, a5, a6] [] (ev 66 0 [aR 19 s0, aQ s1] [] σ) := ev_call f_Tr_takeItem_72 rfl rfl
theorem f_Tr_takeItem_75 : fetch 65 75 = some (.bipush 104) := by decide +kernel
theorem e_Tr_takeItem_75 (a0 a1 a2 a3 a4 a5 a6 : AV) (σ : aM) (r : List AV)  : ev 65 75 [a0, a1, a2, a3, a4, a5, a6] (r) σ = ev 65 77 [a0, a1, a2, a3, a4, a5, a6] (aI 104 :: r) σ := ev_go f_Tr_takeItem_75 rfl
theorem f_Tr_takeItem_77 : fetch 65 77 = some (.if_icmp .ne 17) := by decide +kernel
theorem e_Tr_takeItem_77 (a0 a1 a2 a3 a4 a5 a6 : AV) (σ : aM) (x z : Int) (r : List AV) : ev 65 77 [a0, a1, a2, a3, a4, a5, a6] (aI z :: aI x :: r) σ = if ¬ x = z then ev 65 94 [a0, a1, a2, a3, a4, a5, a6] r σ else ev 65 80 [a0, a1, a2, a3, a4, a5, a6] r σ := ev_br f_Tr_takeItem_77 rfl bc_ne
theorem f_Tr_takeItem_80 : fetch 65 80 = some (.aload_n 0) := by decide +kernel
theorem e_Tr_takeItem_80 (a1 a2 a3 a4 a5 a6 : AV) (σ : aM) (l0 : Option (Nat × Int)) (r : List AV)  : ev 65 80 [aQ l0, a1, a2, a3, a4, a5, a6] (r) σ = ev 65 81 [aQ l0, a1, a2, a3, a4, a5, a6] (aQ l0 :: r) σ := ev_go f_Tr_takeItem_80 rfl
theorem f_Tr_takeItem_81 : fetch 65 81 = some (.aload_n 1) := by decide +kernel
theorem e_Tr_takeItem_81 (a0 a2 a3 a4 a5 a6 : AV) (σ : aM) (l1 : Option (Nat × Int)) (r : List AV)  : ev 65 81 [a0, aQ l1, a2, a3, a4, a5, a6] (r) σ = ev 65 82 [a0, aQ l1, a2, a3, a4, a5, a6] (aQ l1 :: r) σ := ev_go f_Tr_takeItem_81 rfl
theorem f_Tr_takeItem_82 : fetch 65 82 = some (.bipush 104) := by decide +kernel
theorem e_Tr_takeItem_82 (a0 a1 a2 a3 a4 a5 a6 : AV) (σ : aM) (r : List AV)  : ev 65 82 [a0, a1, a2, a3, a4, a5, a6] (r) σ = ev 65 84 [a0, a1, a2, a3, a4, a5, a6] (aI 104 :: r) σ := ev_go f_Tr_takeItem_82 rfl
theorem f_Tr_takeItem_84 : fetch 65 84 = some (.invokevirtual 46) := by decide +kernel
theorem e_Tr_takeItem_84 (a0 a1 a2 a3 a4 a5 a6 : AV) (σ : aM) (s0 : Int) (s1 : Option (Nat × Int)) (s2 : Int) : ev 65 84 [a0, a1, a2, a3, a4, a5, a6] [aI s2, aQ s1, aR 19 s0] σ = evK 65 87 [a0, a1, a2, a3, a4, a5, a6] [] (ev 67 0 [aR 19 s0, aQ s1, aI s2] [] σ) := ev_call f_Tr_takeItem_84 rfl rfl
theorem f_Tr_takeItem_87 : fetch 65 87 = some (.aload_n 0) := by decide +kernel
theorem e_Tr_takeItem_87 (a1 a2 a3 a4 a5 a6 : AV) (σ : aM) (l0 : Option (Nat × Int)) (r : List AV)  : ev 65 87 [aQ l0, a1, a2, a3, a4, a5, a6] (r) σ = ev 65 88 [aQ l0, a1, a2, a3, a4, a5, a6] (aQ l0 :: r) σ := ev_go f_Tr_takeItem_87 rfl
theorem f_Tr_takeItem_88 : fetch 65 88 = some (.aload_n 1) := by decide +kernel
theorem e_Tr_takeItem_88 (a0 a2 a3 a4 a5 a6 : AV) (σ : aM) (l1 : Option (Nat × Int)) (r : List AV)  : ev 65 88 [a0, aQ l1, a2, a3, a4, a5, a6] (r) σ = ev 65 89 [a0, aQ l1, a2, a3, a4, a5, a6] (aQ l1 :: r) σ := ev_go f_Tr_takeItem_88 rfl
theorem f_Tr_takeItem_89 : fetch 65 89 = some (.invokevirtual 58) := by decide +kernel
theorem e_Tr_takeItem_89 (a0 a1 a2 a3 a4 a5 a6 : AV) (σ : aM) (s0 : Int) (s1 : Option (Nat × Int)) : ev 65 89 [a0, a1, a2, a3, a4, a5, a6] [aQ s1, aR 19 s0] σ = evK 65 92 [a0, a1, a2, a3, a4, a5, a6] [] (ev 69 0 [aR 19 s0, aQ s1, aU, aU, aU] [] σ) := ev_call f_Tr_takeItem_89 rfl rfl
theorem f_Tr_takeItem_92 : fetch 65 92 = some (.istore 6) := by decide +kernel
theorem e_Tr_takeItem_92 (a0 a1 a2 a3 a4 a6 : AV) (σ : aM) (x : Int) (l5 : Int) (r : List AV)  : ev 65 92 [a0, a1, a2, a3, a4, aI l5, a6] (aI x :: r) σ = ev 65 94 [a0, a1, a2, a3, a4, aI l5, aI x] (r) σ := ev_go f_Tr_takeItem_92 rfl
theorem f_Tr_takeItem_94 : fetch 65 94 = some (.aload_n 0) := by decide +kernel
theorem e_Tr_takeItem_94 (a1 a2 a3 a4 a5 a6 : AV) (σ : aM) (l0 : Option (Nat × Int)) (r : List AV)  : ev 65 94 [aQ l0, a1, a2, a3, a4, a5, a6] (r) σ = ev 65 95 [aQ l0, a1, a2, a3, a4, a5, a6] (aQ l0 :: r) σ := ev_go f_Tr_takeItem_94 rfl
theorem f_Tr_takeItem_95 : fetch 65 95 = some (.getfield 34) := by decide +kernel
theorem e_Tr_takeItem_95 (a0 a1 a2 a3 a4 a5 a6 : AV) (σ : aM) (i : Int) (r : List AV)  : ev 65 95 [a0, a1, a2, a3, a4, a5, a6] (aR 19 i :: r) σ = ev 65 98 [a0, a1, a2, a3, a4, a5, a6] (aI (gI σ 19 i 7) :: r) σ := ev_go f_Tr_takeItem_95 rfl
theorem f_Tr_takeItem_98 : fetch 65 98 = some (.iconst (-1)) := by decide +kernel
theorem e_Tr_takeItem_98 (a0 a1 a2 a3 a4 a5 a6 : AV) (σ : aM) (r : List AV)  : ev 65 98 [a0, a1, a2, a3, a4, a5, a6] (r) σ = ev 65 99 [a0, a1, a2, a3, a4, a5, a6] (aI (-1) :: r) σ := ev_go f_Tr_takeItem_98 rfl
theorem f_Tr_takeItem_99 : fetch 65 99 = some (.if_icmp .ne 75) := by decide +kernel
theorem e_Tr_takeItem_99 (a0 a1 a2 a3 a4 a5 a6 : AV) (σ : aM) (x z : Int) (r : List AV) : ev 65 99 [a0, a1, a2, a3, a4, a5, a6] (aI z :: aI x :: r) σ = if ¬ x = z then ev 65 174 [a0, a1, a2, a3, a4, a5, a6] r σ else ev 65 102 [a0, a1, a2, a3, a4, a5, a6] r σ := ev_br f_Tr_takeItem_99 rfl bc_ne
theorem f_Tr_takeItem_102 : fetch 65 102 = some (.aload_n 0) := by decide +kernel
theorem e_Tr_takeItem_102 (a1 a2 a3 a4 a5 a6 : AV) (σ : aM) (l0 : Option (Nat × Int)) (r : List AV)  : ev 65 102 [aQ l0, a1, a2, a3, a4, a5, a6] (r) σ = ev 65 103 [aQ l0, a1, a2, a3, a4, a5, a6] (aQ l0 :: r) σ := ev_go f_Tr_takeItem_102 rfl
theorem f_Tr_takeItem_103 : fetch 65 103 = some (.getfield 27) := by decide +kernel
theorem e_Tr_takeItem_103 (a0 a1 a2 a3 a4 a5 a6 : AV) (σ : aM) (i : Int) (r : List AV)  : ev 65 103 [a0, a1, a2, a3, a4, a5, a6] (aR 19 i :: r) σ = ev 65 106 [a0, a1, a2, a3, a4, a5, a6] (aI (gI σ 19 i 5) :: r) σ := ev_go f_Tr_takeItem_103 rfl
theorem f_Tr_takeItem_106 : fetch 65 106 = some (.bipush 27) := by decide +kernel
theorem e_Tr_takeItem_106 (a0 a1 a2 a3 a4 a5 a6 : AV) (σ : aM) (r : List AV)  : ev 65 106 [a0, a1, a2, a3, a4, a5, a6] (r) σ = ev 65 108 [a0, a1, a2, a3, a4, a5, a6] (aI 27 :: r) σ := ev_go f_Tr_takeItem_106 rfl
theorem f_Tr_takeItem_108 : fetch 65 108 = some (.if_icmp .ge 66) := by decide +kernel
theorem e_Tr_takeItem_108 (a0 a1 a2 a3 a4 a5 a6 : AV) (σ : aM) (x z : Int) (r : List AV) : ev 65 108 [a0, a1, a2, a3, a4, a5, a6] (aI z :: aI x :: r) σ = if z ≤ x then ev 65 174 [a0, a1, a2, a3, a4, a5, a6] r σ else ev 65 111 [a0, a1, a2, a3, a4, a5, a6] r σ := ev_br f_Tr_takeItem_108 rfl bc_ge
theorem f_Tr_takeItem_111 : fetch 65 111 = some (.aload_n 0) := by decide +kernel
theorem e_Tr_takeItem_111 (a1 a2 a3 a4 a5 a6 : AV) (σ : aM) (l0 : Option (Nat × Int)) (r : List AV)  : ev 65 111 [aQ l0, a1, a2, a3, a4, a5, a6] (r) σ = ev 65 112 [aQ l0, a1, a2, a3, a4, a5, a6] (aQ l0 :: r) σ := ev_go f_Tr_takeItem_111 rfl
theorem f_Tr_takeItem_112 : fetch 65 112 = some (.getfield 11) := by decide +kernel
theorem e_Tr_takeItem_112 (a0 a1 a2 a3 a4 a5 a6 : AV) (σ : aM) (i : Int) (r : List AV)  : ev 65 112 [a0, a1, a2, a3, a4, a5, a6] (aR 19 i :: r) σ = ev 65 115 [a0, a1, a2, a3, a4, a5, a6] (aR 20 0 :: r) σ := ev_go f_Tr_takeItem_112 rfl
theorem f_Tr_takeItem_115 : fetch 65 115 = some (.aload_n 0) := by decide +kernel
theorem e_Tr_takeItem_115 (a1 a2 a3 a4 a5 a6 : AV) (σ : aM) (l0 : Option (Nat × Int)) (r : List AV)  : ev 65 115 [aQ l0, a1, a2, a3, a4, a5, a6] (r) σ = ev 65 116 [aQ l0, a1, a2, a3, a4, a5, a6] (aQ l0 :: r) σ := ev_go f_Tr_takeItem_115 rfl
theorem f_Tr_takeItem_116 : fetch 65 116 = some (.getfield 27) := by decide +kernel
theorem e_Tr_takeItem_116 (a0 a1 a2 a3 a4 a5 a6 : AV) (σ : aM) (i : Int) (r : List AV)  : ev 65 116 [a0, a1, a2, a3, a4, a5, a6] (aR 19 i :: r) σ = ev 65 119 [a0, a1, a2, a3, a4, a5, a6] (aI (gI σ 19 i 5) :: r) σ := ev_go f_Tr_takeItem_116 rfl
theorem f_Tr_takeItem_119 : fetch 65 119 = some (.iload_n 2) := by decide +kernel
theorem e_Tr_takeItem_119 (a0 a1 a3 a4 a5 a6 : AV) (σ : aM) (l2 : Int) (r : List AV)  : ev 65 119 [a0, a1, aI l2, a3, a4, a5, a6] (r) σ = ev 65 120 [a0, a1, aI l2, a3, a4, a5, a6] (aI l2 :: r) σ := ev_go f_Tr_takeItem_119 rfl
theorem f_Tr_takeItem_120 : fetch 65 120 = some (.iastore) := by decide +kernel
theorem e_Tr_takeItem_120 (a0 a1 a2 a3 a4 a5 a6 : AV) (σ : aM) (x : Int) (i : Int) (v : Int) (r : List AV) (h : 0 ≤ x ∧ x < 27) : ev 65 120 [a0, a1, a2, a3, a4, a5, a6] (aI v :: aI x :: aR 20 i :: r) σ = ev 65 121 [a0, a1, a2, a3, a4, a5, a6] (r) (uI σ 20 i x v) := ev_st f_Tr_takeItem_120 rfl rfl (by decide) (by decide) rfl h
theorem f_Tr_takeItem_121 : fetch 65 121 = some (.aload_n 0) := by decide +kernel
theorem e_Tr_takeItem_121 (a1 a2 a3 a4 a5 a6 : AV) (σ : aM) (l0 : Option (Nat × Int)) (r : List AV)  : ev 65 121 [aQ l0, a1, a2, a3, a4, a5, a6] (r) σ = ev 65 122 [aQ l0, a1, a2, a3, a4, a5, a6] (aQ l0 :: r) σ := ev_go f_Tr_takeItem_121 rfl
theorem f_Tr_takeItem_122 : fetch 65 122 = some (.getfield 15) := by decide +kernel
theorem e_Tr_takeItem_122 (a0 a1 a2 a3 a4 a5 a6 : AV) (σ : aM) (i : Int) (r : List AV)  : ev 65 122 [a0, a1, a2, a3, a4, a5, a6] (aR 19 i :: r) σ = ev 65 125 [a0, a1, a2, a3, a4, a5, a6] (aR 21 0 :: r) σ := ev_go f_Tr_takeItem_122 rfl
theorem f_Tr_takeItem_125 : fetch 65 125 = some (.aload_n 0) := by decide +kernel
theorem e_Tr_takeItem_125 (a1 a2 a3 a4 a5 a6 : AV) (σ : aM) (l0 : Option (Nat × Int)) (r : List AV)  : ev 65 125 [aQ l0, a1, a2, a3, a4, a5, a6] (r) σ = ev 65 126 [aQ l0, a1, a2, a3, a4, a5, a6] (aQ l0 :: r) σ := ev_go f_Tr_takeItem_125 rfl
theorem f_Tr_takeItem_126 : fetch 65 126 = some (.getfield 27) := by decide +kernel
theorem e_Tr_takeItem_126 (a0 a1 a2 a3 a4 a5 a6 : AV) (σ : aM) (i : Int) (r : List AV)  : ev 65 126 [a0, a1, a2, a3, a4, a5, a6] (aR 19 i :: r) σ = ev 65 129 [a0, a1, a2, a3, a4, a5, a6] (aI (gI σ 19 i 5) :: r) σ := ev_go f_Tr_takeItem_126 rfl
theorem f_Tr_takeItem_129 : fetch 65 129 = some (.iload_n 3) := by decide +kernel
theorem e_Tr_takeItem_129 (a0 a1 a2 a4 a5 a6 : AV) (σ : aM) (l3 : Int) (r : List AV)  : ev 65 129 [a0, a1, a2, aI l3, a4, a5, a6] (r) σ = ev 65 130 [a0, a1, a2, aI l3, a4, a5, a6] (aI l3 :: r) σ := ev_go f_Tr_takeItem_129 rfl
theorem f_Tr_takeItem_130 : fetch 65 130 = some (.iastore) := by decide +kernel
theorem e_Tr_takeItem_130 (a0 a1 a2 a3 a4 a5 a6 : AV) (σ : aM) (x : Int) (i : Int) (v : Int) (r : List AV) (h : 0 ≤ x ∧ x < 27) : ev 65 130 [a0, a1, a2, a3, a4, a5, a6] (aI v :: aI x :: aR 21 i :: r) σ = ev 65 131 [a0, a1, a2, a3, a4, a5, a6] (r) (uI σ 21 i x v) := ev_st f_Tr_takeItem_130 rfl rfl (by decide) (by decide) rfl h
theorem f_Tr_takeItem_131 : fetch 65 131 = some (.aload_n 0) := by decide +kernel
theorem e_Tr_takeItem_131 (a1 a2 a3 a4 a5 a6 : AV) (σ : aM) (l0 : Option (Nat × Int)) (r : List AV)  : ev 65 131 [aQ l0, a1, a2, a3, a4, a5, a6] (r) σ = ev 65 132 [aQ l0, a1, a2, a3, a4, a5, a6] (aQ l0 :: r) σ := ev_go f_Tr_takeItem_131 rfl
theorem f_Tr_takeItem_132 : fetch 65 132 = some (.getfield 18) := by decide +kernel
theorem e_Tr_takeItem_132 (a0 a1 a2 a3 a4 a5 a6 : AV) (σ : aM) (i : Int) (r : List AV)  : ev 65 132 [a0, a1, a2, a3, a4, a5, a6] (aR 19 i :: r) σ = ev 65 135 [a0, a1, a2, a3, a4, a5, a6] (aR 22 0 :: r) σ := ev_go f_Tr_takeItem_132 rfl
theorem f_Tr_takeItem_135 : fetch 65 135 = some (.aload_n 0) := by decide +kernel
theorem e_Tr_takeItem_135 (a1 a2 a3 a4 a5 a6 : AV) (σ : aM) (l0 : Option (Nat × Int)) (r : List AV)  : ev 65 135 [aQ l0, a1, a2, a3, a4, a5, a6] (r) σ = ev 65 136 [aQ l0, a1, a2, a3, a4, a5, a6] (aQ l0 :: r) σ := ev_go f_Tr_takeItem_135 rfl
theorem f_Tr_takeItem_136 : fetch 65 136 = some (.getfield 27) := by decide +kernel
theorem e_Tr_takeItem_136 (a0 a1 a2 a3 a4 a5 a6 : AV) (σ : aM) (i : Int) (r : List AV)  : ev 65 136 [a0, a1, a2, a3, a4, a5, a6] (aR 19 i :: r) σ = ev 65 139 [a0, a1, a2, a3, a4, a5, a6] (aI (gI σ 19 i 5) :: r) σ := ev_go f_Tr_takeItem_136 rfl
theorem f_Tr_takeItem_139 : fetch 65 139 = some (.iload 4) := by decide +kernel
theorem e_Tr_takeItem_139 (a0 a1 a2 a3 a5 a6 : AV) (σ : aM) (l4 : Int) (r : List AV)  : ev 65 139 [a0, a1, a2, a3, aI l4, a5, a6] (r) σ = ev 65 141 [a0, a1, a2, a3, aI l4, a5, a6] (aI l4 :: r) σ := ev_go f_Tr_takeItem_139 rfl
theorem f_Tr_takeItem_141 : fetch 65 141 = some (.iastore) := by decide +kernel
theorem e_Tr_takeItem_141 (a0 a1 a2 a3 a4 a5 a6 : AV) (σ : aM) (x : Int) (i : Int) (v : Int) (r : List AV) (h : 0 ≤ x ∧ x < 27) : ev 65 141 [a0, a1, a2, a3, a4, a5, a6] (aI v :: aI x :: aR 22 i :: r) σ = ev 65 142 [a0, a1, a2, a3, a4, a5, a6] (r) (uI σ 22 i x v) := ev_st f_Tr_takeItem_141 rfl rfl (by decide) (by decide) rfl h
theorem f_Tr_takeItem_142 : fetch 65 142 = some (.aload_n 0) := by decide +kernel
theorem e_Tr_takeItem_142 (a1 a2 a3 a4 a5 a6 : AV) (σ : aM) (l0 : Option (Nat × Int)) (r : List AV)  : ev 65 142 [aQ l0, a1, a2, a3, a4, a5, a6] (r) σ = ev 65 143 [aQ l0, a1, a2, a3, a4, a5, a6] (aQ l0 :: r) σ := ev_go f_Tr_takeItem_142 rfl
theorem f_Tr_takeItem_143 : fetch 65 143 = some (.getfield 21) := by decide +kernel
theorem e_Tr_takeItem_143 (a0 a1 a2 a3 a4 a5 a6 : AV) (σ : aM) (i : Int) (r : List AV)  : ev 65 143 [a0, a1, a2, a3, a4, a5, a6] (aR 19 i :: r) σ = ev 65 146 [a0, a1, a2, a3, a4, a5, a6] (aR 23 0 :: r) σ := ev_go f_Tr_takeItem_143 rfl
theorem f_Tr_takeItem_146 : fetch 65 146 = some (.aload_n 0) := by decide +kernel
theorem e_Tr_takeItem_146 (a1 a2 a3 a4 a5 a6 : AV) (σ : aM) (l0 : Option (Nat × Int)) (r : List AV)  : ev 65 146 [aQ l0, a1, a2, a3, a4, a5, a6] (r) σ = ev 65 147 [aQ l0, a1, a2, a3, a4, a5, a6] (aQ l0 :: r) σ := ev_go f_Tr_takeItem_146 rfl
theorem f_Tr_takeItem_147 : fetch 65 147 = some (.getfield 27) := by decide +kernel
theorem e_Tr_takeItem_147 (a0 a1 a2 a3 a4 a5 a6 : AV) (σ : aM) (i : Int) (r : List AV)  : ev 65 147 [a0, a1, a2, a3, a4, a5, a6] (aR 19 i :: r) σ = ev 65 150 [a0, a1, a2, a3, a4, a5, a6] (aI (gI σ 19 i 5) :: r) σ := ev_go f_Tr_takeItem_147 rfl
theorem f_Tr_takeItem_150 : fetch 65 150 = some (.iload 5) := by decide +kernel
theorem e_Tr_takeItem_150 (a0 a1 a2 a3 a4 a6 : AV) (σ : aM) (l5 : Int) (r : List AV)  : ev 65 150 [a0, a1, a2, a3, a4, aI l5, a6] (r) σ = ev 65 152 [a0, a1, a2, a3, a4, aI l5, a6] (aI l5 :: r) σ := ev_go f_Tr_takeItem_150 rfl
theorem f_Tr_takeItem_152 : fetch 65 152 = some (.iastore) := by decide +kernel
theorem e_Tr_takeItem_152 (a0 a1 a2 a3 a4 a5 a6 : AV) (σ : aM) (x : Int) (i : Int) (v : Int) (r : List AV) (h : 0 ≤ x ∧ x < 27) : ev 65 152 [a0, a1, a2, a3, a4, a5, a6] (aI v :: aI x :: aR 23 i :: r) σ = ev 65 153 [a0, a1, a2, a3, a4, a5, a6] (r) (uI σ 23 i x v) := ev_st f_Tr_takeItem_152 rfl rfl (by decide) (by decide) rfl h
theorem f_Tr_takeItem_153 : fetch 65 153 = some (.aload_n 0) := by decide +kernel
theorem e_Tr_takeItem_153 (a1 a2 a3 a4 a5 a6 : AV) (σ : aM) (l0 : Option (Nat × Int)) (r : List AV)  : ev 65 153 [aQ l0, a1, a2, a3, a4, a5, a6] (r) σ = ev 65 154 [aQ l0, a1, a2, a3, a4, a5, a6] (aQ l0 :: r) σ := ev_go f_Tr_takeItem_153 rfl
theorem f_Tr_takeItem_154 : fetch 65 154 = some (.getfield 24) := by decide +kernel
theorem e_Tr_takeItem_154 (a0 a1 a2 a3 a4 a5 a6 : AV) (σ : aM) (i : Int) (r : List AV)  : ev 65 154 [a0, a1, a2, a3, a4, a5, a6] (aR 19 i :: r) σ = ev 65 157 [a0, a1, a2, a3, a4, a5, a6] (aR 24 0 :: r) σ := ev_go f_Tr_takeItem_154 rfl
theorem f_Tr_takeItem_157 : fetch 65 157 = some (.aload_n 0) := by decide +kernel
theorem e_Tr_takeItem_157 (a1 a2 a3 a4 a5 a6 : AV) (σ : aM) (l0 : Option (Nat × Int)) (r : List AV)  : ev 65 157 [aQ l0, a1, a2, a3, a4, a5, a6] (r) σ = ev 65 158 [aQ l0, a1, a2, a3, a4, a5, a6] (aQ l0 :: r) σ := ev_go f_Tr_takeItem_157 rfl
theorem f_Tr_takeItem_158 : fetch 65 158 = some (.getfield 27) := by decide +kernel
theorem e_Tr_takeItem_158 (a0 a1 a2 a3 a4 a5 a6 : AV) (σ : aM) (i : Int) (r : List AV)  : ev 65 158 [a0, a1, a2, a3, a4, a5, a6] (aR 19 i :: r) σ = ev 65 161 [a0, a1, a2, a3, a4, a5, a6] (aI (gI σ 19 i 5) :: r) σ := ev_go f_Tr_takeItem_158 rfl
theorem f_Tr_takeItem_161 : fetch 65 161 = some (.iload 6) := by decide +kernel
theorem e_Tr_takeItem_161 (a0 a1 a2 a3 a4 a5 : AV) (σ : aM) (l6 : Int) (r : List AV)  : ev 65 161 [a0, a1, a2, a3, a4, a5, aI l6] (r) σ = ev 65 163 [a0, a1, a2, a3, a4, a5, aI l6] (aI l6 :: r) σ := ev_go f_Tr_takeItem_161 rfl
theorem f_Tr_takeItem_163 : fetch 65 163 = some (.iastore) := by decide +kernel
theorem e_Tr_takeItem_163 (a0 a1 a2 a3 a4 a5 a6 : AV) (σ : aM) (x : Int) (i : Int) (v : Int) (r : List AV) (h : 0 ≤ x ∧ x < 27) : ev 65 163 [a0, a1, a2, a3, a4, a5, a6] (aI v :: aI x :: aR 24 i :: r) σ = ev 65 164 [a0, a1, a2, a3, a4, a5, a6] (r) (uI σ 24 i x v) := ev_st f_Tr_takeItem_163 rfl rfl (by decide) (by decide) rfl h
theorem f_Tr_takeItem_164 : fetch 65 164 = some (.aload_n 0) := by decide +kernel
theorem e_Tr_takeItem_164 (a1 a2 a3 a4 a5 a6 : AV) (σ : aM) (l0 : Option (Nat × Int)) (r : List AV)  : ev 65 164 [aQ l0, a1, a2, a3, a4, a5, a6] (r) σ = ev 65 165 [aQ l0, a1, a2, a3, a4, a5, a6] (aQ l0 :: r) σ := ev_go f_Tr_takeItem_164 rfl
theorem f_Tr_takeItem_165 : fetch 65 165 = some (.dup) := by decide +kernel
theorem e_Tr_takeItem_165 (a0 a1 a2 a3 a4 a5 a6 : AV) (σ : aM) (x : Option (Nat × Int)) (r : List AV)  : ev 65 165 [a0, a1, a2, a3, a4, a5, a6] (aQ x :: r) σ = ev 65 166 [a0, a1, a2, a3, a4, a5, a6] (aQ x :: aQ x :: r) σ := ev_go f_Tr_takeItem_165 rfl
theorem f_Tr_takeItem_166 : fetch 65 166 = some (.getfield 27) := by decide +kernel
theorem e_Tr_takeItem_166 (a0 a1 a2 a3 a4 a5 a6 : AV) (σ : aM) (i : Int) (r : List AV)  : ev 65 166 [a0, a1, a2, a3, a4, a5, a6] (aR 19 i :: r) σ = ev 65 169 [a0, a1, a2, a3, a4, a5, a6] (aI (gI σ 19 i 5) :: r) σ := ev_go f_Tr_takeItem_166 rfl
theorem f_Tr_takeItem_169 : fetch 65 169 = some (.iconst 1) := by decide +kernel
theorem e_Tr_takeItem_169 (a0 a1 a2 a3 a4 a5 a6 : AV) (σ : aM) (r : List AV)  : ev 65 169 [a0, a1, a2, a3, a4, a5, a6] (r) σ = ev 65 170 [a0, a1, a2, a3, a4, a5, a6] (aI 1 :: r) σ := ev_go f_Tr_takeItem_169 rfl
theorem f_Tr_takeItem_170 : fetch 65 170 = some (.iadd) := by decide +kernel
theorem e_Tr_takeItem_170 (a0 a1 a2 a3 a4 a5 a6 : AV) (σ : aM) (x z : Int) (r : List AV)  : ev 65 170 [a0, a1, a2, a3, a4, a5, a6] (aI z :: aI x :: r) σ = ev 65 171 [a0, a1, a2, a3, a4, a5, a6] (aI (wr (x + z)) :: r) σ := ev_go f_Tr_takeItem_170 rfl
theorem f_Tr_takeItem_171 : fetch 65 171 = some (.putfield 27) := by decide +kernel
theorem e_Tr_takeItem_171 (a0 a1 a2 a3 a4 a5 a6 : AV) (σ : aM) (i : Int) (x : Int) (r : List AV)  : ev 65 171 [a0, a1, a2, a3, a4, a5, a6] (aI x :: aR 19 i :: r) σ = ev 65 174 [a0, a1, a2, a3, a4, a5, a6] (r) (uI σ 19 i 5 x) := ev_go f_Tr_takeItem_171 rfl
theorem f_Tr_takeItem_174 : fetch 65 174 = some (.return_) := by decide +kernel
theorem e_Tr_takeItem_174 (a0 a1 a2 a3 a4 a5 a6 : AV) (σ : aM)  : ev 65 174 [a0, a1, a2, a3, a4, a5, a6] [] σ = some (none, σ) := ev_ret f_Tr_takeItem_174 rfl
theorem f_Tr_signAt_0 : fetch 66 0 = some (.aload_n 0) := by decide +kernel
theorem e_Tr_signAt_0 (a1 : AV) (σ : aM) (l0 : Option (Nat × Int)) (r : List AV)  : ev 66 0 [aQ l0, a1] (r) σ = ev 66 1 [aQ l0, a1] (aQ l0 :: r) σ := ev_go f_Tr_signAt_0 rfl
theorem f_Tr_signAt_1 : fetch 66 1 = some (.getfield 31) := by decide +kernel
theorem e_Tr_signAt_1 (a0 a1 : AV) (σ : aM) (i : Int) (r : List AV)  : ev 66 1 [a0, a1] (aR 19 i :: r) σ = ev 66 4 [a0, a1] (aI (gI σ 19 i 6) :: r) σ := ev_go f_Tr_signAt_1 rfl
theorem f_Tr_signAt_4 : fetch 66 4 = some (.aload_n 1) := by decide +kernel
theorem e_Tr_signAt_4 (a0 : AV) (σ : aM) (l1 : Option (Nat × Int)) (r : List AV)  : ev 66 4 [a0, aQ l1] (r) σ = ev 66 5 [a0, aQ l1] (aQ l1 :: r) σ := ev_go f_Tr_signAt_4 rfl
theorem f_Tr_signAt_5 : fetch 66 5 = some (.getfield 41) := by decide +kernel
theorem e_Tr_signAt_5 (a0 a1 : AV) (σ : aM) (i : Int) (r : List AV)  : ev 66 5 [a0, a1] (aR 2 i :: r) σ = ev 66 8 [a0, a1] (aI (gI σ 2 i 1) :: r) σ := ev_go f_Tr_signAt_5 rfl
theorem f_Tr_signAt_8 : fetch 66 8 = some (.if_icmp .ge 14) := by decide +kernel
theorem e_Tr_signAt_8 (a0 a1 : AV) (σ : aM) (x z : Int) (r : List AV) : ev 66 8 [a0, a1] (aI z :: aI x :: r) σ = if z ≤ x then ev 66 22 [a0, a1] r σ else ev 66 11 [a0, a1] r σ := ev_br f_Tr_signAt_8 rfl bc_ge
theorem f_Tr_signAt_11 : fetch 66 11 = some (.aload_n 1) := by decide +kernel
theorem e_Tr_signAt_11 (a0 : AV) (σ : aM) (l1 : Option (Nat × Int)) (r : List AV)  : ev 66 11 [a0, aQ l1] (r) σ = ev 66 12 [a0, aQ l1] (aQ l1 :: r) σ := ev_go f_Tr_signAt_11 rfl
theorem f_Tr_signAt_12 : fetch 66 12 = some (.aload_n 0) := by decide +kernel
theorem e_Tr_signAt_12 (a1 : AV) (σ : aM) (l0 : Option (Nat × Int)) (r : List AV)  : ev 66 12 [aQ l0, a1] (r) σ = ev 66 13 [aQ l0, a1] (aQ l0 :: r) σ := ev_go f_Tr_signAt_12 rfl
theorem f_Tr_signAt_13 : fetch 66 13 = some (.getfield 31) := by decide +kernel
theorem e_Tr_signAt_13 (a0 a1 : AV) (σ : aM) (i : Int) (r : List AV)  : ev 66 13 [a0, a1] (aR 19 i :: r) σ = ev 66 16 [a0, a1] (aI (gI σ 19 i 6) :: r) σ := ev_go f_Tr_signAt_13 rfl
theorem f_Tr_signAt_16 : fetch 66 16 = some (.invokevirtual 61) := by decide +kernel
theorem e_Tr_signAt_16 (a0 a1 : AV) (σ : aM) (s0 : Int) (s1 : Int) : ev 66 16 [a0, a1] [aI s1, aR 2 s0] σ = evK 66 19 [a0, a1] [] (ev 62 0 [aR 2 s0, aI s1] [] σ) := ev_call f_Tr_signAt_16 rfl rfl
theorem f_Tr_signAt_19 : fetch 66 19 = some (.goto 4) := by decide +kernel
theorem e_Tr_signAt_19 (a0 a1 : AV) (σ : aM) (r : List AV)  : ev 66 19 [a0, a1] (r) σ = ev 66 23 [a0, a1] (r) σ := ev_go f_Tr_signAt_19 rfl
theorem f_Tr_signAt_22 : fetch 66 22 = some (.iconst (-1)) := by decide +kernel
theorem e_Tr_signAt_22 (a0 a1 : AV) (σ : aM) (r : List AV)  : ev 66 22 [a0, a1] (r) σ = ev 66 23 [a0, a1] (aI (-1) :: r) σ := ev_go f_Tr_signAt_22 rfl
theorem f_Tr_signAt_23 : fetch 66 23 = some (.ireturn) := by decide +kernel
theorem e_Tr_signAt_23 (a0 a1 : AV) (σ : aM) (x : Int) : ev 66 23 [a0, a1] [aI x] σ = some ((some (aI x)), σ) := ev_ret f_Tr_signAt_23 rfl
theorem f_Tr_takeSign_0 : fetch 67 0 = some (.aload_n 0) := by decide +kernel
theorem e_Tr_takeSign_0 (a1 a2 : AV) (σ : aM) (l0 : Option (Nat × Int)) (r : List AV)  : ev 67 0 [aQ l0, a1, a2] (r) σ = ev 67 1 [aQ l0, a1, a2] (aQ l0 :: r) σ := ev_go f_Tr_takeSign_0 rfl
theorem f_Tr_takeSign_1 : fetch 67 1 = some (.aload_n 1) := by decide +kernel
theorem e_Tr_takeSign_1 (a0 a2 : AV) (σ : aM) (l1 : Option (Nat × Int)) (r : List AV)  : ev 67 1 [a0, aQ l1, a2] (r) σ = ev 67 2 [a0, aQ l1, a2] (aQ l1 :: r) σ := ev_go f_Tr_takeSign_1 rfl
theorem f_Tr_takeSign_2 : fetch 67 2 = some (.iload_n 2) := by decide +kernel
theorem e_Tr_takeSign_2 (a0 a1 : AV) (σ : aM) (l2 : Int) (r : List AV)  : ev 67 2 [a0, a1, aI l2] (r) σ = ev 67 3 [a0, a1, aI l2] (aI l2 :: r) σ := ev_go f_Tr_takeSign_2 rfl
theorem f_Tr_takeSign_3 : fetch 67 3 = some (.iload_n 2) := by decide +kernel
theorem e_Tr_takeSign_3 (a0 a1 : AV) (σ : aM) (l2 : Int) (r : List AV)  : ev 67 3 [a0, a1, aI l2] (r) σ = ev 67 4 [a0, a1, aI l2] (aI l2 :: r) σ := ev_go f_Tr_takeSign_3 rfl
theorem f_Tr_takeSign_4 : fetch 67 4 = some (.invokevirtual 50) := by decide +kernel
theorem e_Tr_takeSign_4 (a0 a1 a2 : AV) (σ : aM) (s0 : Int) (s1 : Option (Nat × Int)) (s2 : Int) (s3 : Int) : ev 67 4 [a0, a1, a2] [aI s3, aI s2, aQ s1, aR 19 s0] σ = evK 67 7 [a0, a1, a2] [] (ev 68 0 [aR 19 s0, aQ s1, aI s2, aI s3, aU] [] σ) := ev_call f_Tr_takeSign_4 rfl rfl
theorem f_Tr_takeSign_7 : fetch 67 7 = some (.pop) := by decide +kernel
theorem e_Tr_takeSign_7 (a0 a1 a2 : AV) (σ : aM) (x : Int) (r : List AV)  : ev 67 7 [a0, a1, a2] (aI x :: r) σ = ev 67 8 [a0, a1, a2] (r) σ := ev_go f_Tr_takeSign_7 rfl
theorem f_Tr_takeSign_8 : fetch 67 8 = some (.return_) := by decide +kernel
theorem e_Tr_takeSign_8 (a0 a1 a2 : AV) (σ : aM)  : ev 67 8 [a0, a1, a2] [] σ = some (none, σ) := ev_ret f_Tr_takeSign_8 rfl
theorem f_Tr_takeBetween_0 : fetch 68 0 = some (.aload_n 0) := by decide +kernel
theorem e_Tr_takeBetween_0 (a1 a2 a3 a4 : AV) (σ : aM) (l0 : Option (Nat × Int)) (r : List AV)  : ev 68 0 [aQ l0, a1, a2, a3, a4] (r) σ = ev 68 1 [aQ l0, a1, a2, a3, a4] (aQ l0 :: r) σ := ev_go f_Tr_takeBetween_0 rfl
theorem f_Tr_takeBetween_1 : fetch 68 1 = some (.aload_n 1) := by decide +kernel
theorem e_Tr_takeBetween_1 (a0 a2 a3 a4 : AV) (σ : aM) (l1 : Option (Nat × Int)) (r : List AV)  : ev 68 1 [a0, aQ l1, a2, a3, a4] (r) σ = ev 68 2 [a0, aQ l1, a2, a3, a4] (aQ l1 :: r) σ := ev_go f_Tr_takeBetween_1 rfl
theorem f_Tr_takeBetween_2 : fetch 68 2 = some (.invokevirtual 54) := by decide +kernel
theorem e_Tr_takeBetween_2 (a0 a1 a2 a3 a4 : AV) (σ : aM) (s0 : Int) (s1 : Option (Nat × Int)) : ev 68 2 [a0, a1, a2, a3, a4] [aQ s1, aR 19 s0] σ = evK 68 5 [a0, a1, a2, a3, a4] [] (ev 66 0 [aR 19 s0, aQ s1] [] σ) := ev_call f_Tr_takeBetween_2 rfl rfl
theorem f_Tr_takeBetween_5 : fetch 68 5 = some (.istore 4) := by decide +kernel
theorem e_Tr_takeBetween_5 (a0 a1 a2 a4 : AV) (σ : aM) (x : Int) (l3 : Int) (r : List AV)  : ev 68 5 [a0, a1, a2, aI l3, a4] (aI x :: r) σ = ev 68 7 [a0, a1, a2, aI l3, aI x] (r) σ := ev_go f_Tr_takeBetween_5 rfl
theorem f_Tr_takeBetween_7 : fetch 68 7 = some (.aload_n 0) := by decide +kernel
theorem e_Tr_takeBetween_7 (a1 a2 a3 a4 : AV) (σ : aM) (l0 : Option (Nat × Int)) (r : List AV)  : ev 68 7 [aQ l0, a1, a2, a3, a4] (r) σ = ev 68 8 [aQ l0, a1, a2, a3, a4] (aQ l0 :: r) σ := ev_go f_Tr_takeBetween_7 rfl
theorem f_Tr_takeBetween_8 : fetch 68 8 = some (.getfield 34) := by decide +kernel
theorem e_Tr_takeBetween_8 (a0 a1 a2 a3 a4 : AV) (σ : aM) (i : Int) (r : List AV)  : ev 68 8 [a0, a1, a2, a3, a4] (aR 19 i :: r) σ = ev 68 11 [a0, a1, a2, a3, a4] (aI (gI σ 19 i 7) :: r) σ := ev_go f_Tr_takeBetween_8 rfl
theorem f_Tr_takeBetween_11 : fetch 68 11 = some (.iconst (-1)) := by decide +kernel
theorem e_Tr_takeBetween_11 (a0 a1 a2 a3 a4 : AV) (σ : aM) (r : List AV)  : ev 68 11 [a0, a1, a2, a3, a4] (r) σ = ev 68 12 [a0, a1, a2, a3, a4] (aI (-1) :: r) σ := ev_go f_Tr_takeBetween_11 rfl
theorem f_Tr_takeBetween_12 : fetch 68 12 = some (.if_icmp .eq 6) := by decide +kernel
theorem e_Tr_takeBetween_12 (a0 a1 a2 a3 a4 : AV) (σ : aM) (x z : Int) (r : List AV) : ev 68 12 [a0, a1, a2, a3, a4] (aI z :: aI x :: r) σ = if x = z then ev 68 18 [a0, a1, a2, a3, a4] r σ else ev 68 15 [a0, a1, a2, a3, a4] r σ := ev_br f_Tr_takeBetween_12 rfl bc_eq
theorem f_Tr_takeBetween_15 : fetch 68 15 = some (.iload 4) := by decide +kernel
theorem e_Tr_takeBetween_15 (a0 a1 a2 a3 : AV) (σ : aM) (l4 : Int) (r : List AV)  : ev 68 15 [a0, a1, a2, a3, aI l4] (r) σ = ev 68 17 [a0, a1, a2, a3, aI l4] (aI l4 :: r) σ := ev_go f_Tr_takeBetween_15 rfl
theorem f_Tr_takeBetween_17 : fetch 68 17 = some (.ireturn) := by decide +kernel
theorem e_Tr_takeBetween_17 (a0 a1 a2 a3 a4 : AV) (σ : aM) (x : Int) : ev 68 17 [a0, a1, a2, a3, a4] [aI x] σ = some ((some (aI x)), σ) := ev_ret f_Tr_takeBetween_17 rfl
theorem f_Tr_takeBetween_18 : fetch 68 18 = some (.iload 4) := by decide +kernel
theorem e_Tr_takeBetween_18 (a0 a1 a2 a3 : AV) (σ : aM) (l4 : Int) (r : List AV)  : ev 68 18 [a0, a1, a2, a3, aI l4] (r) σ = ev 68 20 [a0, a1, a2, a3, aI l4] (aI l4 :: r) σ := ev_go f_Tr_takeBetween_18 rfl
theorem f_Tr_takeBetween_20 : fetch 68 20 = some (.iload_n 2) := by decide +kernel
theorem e_Tr_takeBetween_20 (a0 a1 a3 a4 : AV) (σ : aM) (l2 : Int) (r : List AV)  : ev 68 20 [a0, a1, aI l2, a3, a4] (r) σ = ev 68 21 [a0, a1, aI l2, a3, a4] (aI l2 :: r) σ := ev_go f_Tr_takeBetween_20 rfl
theorem f_Tr_takeBetween_21 : fetch 68 21 = some (.if_icmp .lt 9) := by decide +kernel
theorem e_Tr_takeBetween_21 (a0 a1 a2 a3 a4 : AV) (σ : aM) (x z : Int) (r : List AV) : ev 68 21 [a0, a1, a2, a3, a4] (aI z :: aI x :: r) σ = if x < z then ev 68 30 [a0, a1, a2, a3, a4] r σ else ev 68 24 [a0, a1, a2, a3, a4] r σ := ev_br f_Tr_takeBetween_21 rfl bc_lt
theorem f_Tr_takeBetween_24 : fetch 68 24 = some (.iload 4) := by decide +kernel
theorem e_Tr_takeBetween_24 (a0 a1 a2 a3 : AV) (σ : aM) (l4 : Int) (r : List AV)  : ev 68 24 [a0, a1, a2, a3, aI l4] (r) σ = ev 68 26 [a0, a1, a2, a3, aI l4] (aI l4 :: r) σ := ev_go f_Tr_takeBetween_24 rfl
theorem f_Tr_takeBetween_26 : fetch 68 26 = some (.iload_n 3) := by decide +kernel
theorem e_Tr_takeBetween_26 (a0 a1 a2 a4 : AV) (σ : aM) (l3 : Int) (r : List AV)  : ev 68 26 [a0, a1, a2, aI l3, a4] (r) σ = ev 68 27 [a0, a1, a2, aI l3, a4] (aI l3 :: r) σ := ev_go f_Tr_takeBetween_26 rfl
theorem f_Tr_takeBetween_27 : fetch 68 27 = some (.if_icmp .le 14) := by decide +kernel
theorem e_Tr_takeBetween_27 (a0 a1 a2 a3 a4 : AV) (σ : aM) (x z : Int) (r : List AV) : ev 68 27 [a0, a1, a2, a3, a4] (aI z :: aI x :: r) σ = if x ≤ z then ev 68 41 [a0, a1, a2, a3, a4] r σ else ev 68 30 [a0, a1, a2, a3, a4] r σ := ev_br f_Tr_takeBetween_27 rfl bc_le
theorem f_Tr_takeBetween_30 : fetch 68 30 = some (.aload_n 0) := by decide +kernel
theorem e_Tr_takeBetween_30 (a1 a2 a3 a4 : AV) (σ : aM) (l0 : Option (Nat × Int)) (r : List AV)  : ev 68 30 [aQ l0, a1, a2, a3, a4] (r) σ = ev 68 31 [aQ l0, a1, a2, a3, a4] (aQ l0 :: r) σ := ev_go f_Tr_takeBetween_30 rfl
theorem f_Tr_takeBetween_31 : fetch 68 31 = some (.aload_n 0) := by decide +kernel
theorem e_Tr_takeBetween_31 (a1 a2 a3 a4 : AV) (σ : aM) (l0 : Option (Nat × Int)) (r : List AV)  : ev 68 31 [aQ l0, a1, a2, a3, a4] (r) σ = ev 68 32 [aQ l0, a1, a2, a3, a4] (aQ l0 :: r) σ := ev_go f_Tr_takeBetween_31 rfl
theorem f_Tr_takeBetween_32 : fetch 68 32 = some (.getfield 31) := by decide +kernel
theorem e_Tr_takeBetween_32 (a0 a1 a2 a3 a4 : AV) (σ : aM) (i : Int) (r : List AV)  : ev 68 32 [a0, a1, a2, a3, a4] (aR 19 i :: r) σ = ev 68 35 [a0, a1, a2, a3, a4] (aI (gI σ 19 i 6) :: r) σ := ev_go f_Tr_takeBetween_32 rfl
theorem f_Tr_takeBetween_35 : fetch 68 35 = some (.putfield 34) := by decide +kernel
theorem e_Tr_takeBetween_35 (a0 a1 a2 a3 a4 : AV) (σ : aM) (i : Int) (x : Int) (r : List AV)  : ev 68 35 [a0, a1, a2, a3, a4] (aI x :: aR 19 i :: r) σ = ev 68 38 [a0, a1, a2, a3, a4] (r) (uI σ 19 i 7 x) := ev_go f_Tr_takeBetween_35 rfl
theorem f_Tr_takeBetween_38 : fetch 68 38 = some (.goto 13) := by decide +kernel
theorem e_Tr_takeBetween_38 (a0 a1 a2 a3 a4 : AV) (σ : aM) (r : List AV)  : ev 68 38 [a0, a1, a2, a3, a4] (r) σ = ev 68 51 [a0, a1, a2, a3, a4] (r) σ := ev_go f_Tr_takeBetween_38 rfl
theorem f_Tr_takeBetween_41 : fetch 68 41 = some (.aload_n 0) := by decide +kernel
theorem e_Tr_takeBetween_41 (a1 a2 a3 a4 : AV) (σ : aM) (l0 : Option (Nat × Int)) (r : List AV)  : ev 68 41 [aQ l0, a1, a2, a3, a4] (r) σ = ev 68 42 [aQ l0, a1, a2, a3, a4] (aQ l0 :: r) σ := ev_go f_Tr_takeBetween_41 rfl
theorem f_Tr_takeBetween_42 : fetch 68 42 = some (.dup) := by decide +kernel
theorem e_Tr_takeBetween_42 (a0 a1 a2 a3 a4 : AV) (σ : aM) (x : Option (Nat × Int)) (r : List AV)  : ev 68 42 [a0, a1, a2, a3, a4] (aQ x :: r) σ = ev 68 43 [a0, a1, a2, a3, a4] (aQ x :: aQ x :: r) σ := ev_go f_Tr_takeBetween_42 rfl
theorem f_Tr_takeBetween_43 : fetch 68 43 = some (.getfield 31) := by decide +kernel
theorem e_Tr_takeBetween_43 (a0 a1 a2 a3 a4 : AV) (σ : aM) (i : Int) (r : List AV)  : ev 68 43 [a0, a1, a2, a3, a4] (aR 19 i :: r) σ = ev 68 46 [a0, a1, a2, a3, a4] (aI (gI σ 19 i 6) :: r) σ := ev_go f_Tr_takeBetween_43 rfl
theorem f_Tr_takeBetween_46 : fetch 68 46 = some (.iconst 1) := by decide +kernel
theorem e_Tr_takeBetween_46 (a0 a1 a2 a3 a4 : AV) (σ : aM) (r : List AV)  : ev 68 46 [a0, a1, a2, a3, a4] (r) σ = ev 68 47 [a0, a1, a2, a3, a4] (aI 1 :: r) σ := ev_go f_Tr_takeBetween_46 rfl
theorem f_Tr_takeBetween_47 : fetch 68 47 = some (.iadd) := by decide +kernel
theorem e_Tr_takeBetween_47 (a0 a1 a2 a3 a4 : AV) (σ : aM) (x z : Int) (r : List AV)  : ev 68 47 [a0, a1, a2, a3, a4] (aI z :: aI x :: r) σ = ev 68 48 [a0, a1, a2, a3, a4] (aI (wr (x + z)) :: r) σ := ev_go f_Tr_takeBetween_47 rfl
theorem f_Tr_takeBetween_48 : fetch 68 48 = some (.putfield 31) := by decide +kernel
theorem e_Tr_takeBetween_48 (a0 a1 a2 a3 a4 : AV) (σ : aM) (i : Int) (x : Int) (r : List AV)  : ev 68 48 [a0, a1, a2, a3, a4] (aI x :: aR 19 i :: r) σ = ev 68 51 [a0, a1, a2, a3, a4] (r) (uI σ 19 i 6 x) := ev_go f_Tr_takeBetween_48 rfl
theorem f_Tr_takeBetween_51 : fetch 68 51 = some (.iload 4) := by decide +kernel
theorem e_Tr_takeBetween_51 (a0 a1 a2 a3 : AV) (σ : aM) (l4 : Int) (r : List AV)  : ev 68 51 [a0, a1, a2, a3, aI l4] (r) σ = ev 68 53 [a0, a1, a2, a3, aI l4] (aI l4 :: r) σ := ev_go f_Tr_takeBetween_51 rfl
theorem f_Tr_takeBetween_53 : fetch 68 53 = some (.ireturn) := by decide +kernel
theorem e_Tr_takeBetween_53 (a0 a1 a2 a3 a4 : AV) (σ : aM) (x : Int) : ev 68 53 [a0, a1, a2, a3, a4] [aI x] σ = some ((some (aI x)), σ) := ev_ret f_Tr_takeBetween_53 rfl
theorem f_Tr_takeNumber_0 : fetch 69 0 = some (.aload_n 0) := by decide +kernel
theorem e_Tr_takeNumber_0 (a1 a2 a3 a4 : AV) (σ : aM) (l0 : Option (Nat × Int)) (r : List AV)  : ev 69 0 [aQ l0, a1, a2, a3, a4] (r) σ = ev 69 1 [aQ l0, a1, a2, a3, a4] (aQ l0 :: r) σ := ev_go f_Tr_takeNumber_0 rfl
theorem f_Tr_takeNumber_1 : fetch 69 1 = some (.getfield 31) := by decide +kernel
theorem e_Tr_takeNumber_1 (a0 a1 a2 a3 a4 : AV) (σ : aM) (i : Int) (r : List AV)  : ev 69 1 [a0, a1, a2, a3, a4] (aR 19 i :: r) σ = ev 69 4 [a0, a1, a2, a3, a4] (aI (gI σ 19 i 6) :: r) σ := ev_go f_Tr_takeNumber_1 rfl
theorem f_Tr_takeNumber_4 : fetch 69 4 = some (.istore_n 2) := by decide +kernel
theorem e_Tr_takeNumber_4 (a0 a2 a3 a4 : AV) (σ : aM) (x : Int) (l1 : Option (Nat × Int)) (r : List AV)  : ev 69 4 [a0, aQ l1, a2, a3, a4] (aI x :: r) σ = ev 69 5 [a0, aQ l1, aI x, a3, a4] (r) σ := ev_go f_Tr_takeNumber_4 rfl
theorem f_Tr_takeNumber_5 : fetch 69 5 = some (.aload_n 0) := by decide +kernel
theorem e_Tr_takeNumber_5 (a1 a2 a3 a4 : AV) (σ : aM) (l0 : Option (Nat × Int)) (r : List AV)  : ev 69 5 [aQ l0, a1, a2, a3, a4] (r) σ = ev 69 6 [aQ l0, a1, a2, a3, a4] (aQ l0 :: r) σ := ev_go f_Tr_takeNumber_5 rfl
theorem f_Tr_takeNumber_6 : fetch 69 6 = some (.aload_n 1) := by decide +kernel
theorem e_Tr_takeNumber_6 (a0 a2 a3 a4 : AV) (σ : aM) (l1 : Option (Nat × Int)) (r : List AV)  : ev 69 6 [a0, aQ l1, a2, a3, a4] (r) σ = ev 69 7 [a0, aQ l1, a2, a3, a4] (aQ l1 :: r) σ := ev_go f_Tr_takeNumber_6 rfl
theorem f_Tr_takeNumber_7 : fetch 69 7 = some (.bipush 48) := by decide +kernel
theorem e_Tr_takeNumber_7 (a0 a1 a2 a3 a4 : AV) (σ : aM) (r : List AV)  : ev 69 7 [a0, a1, a2, a3, a4] (r) σ = ev 69 9 [a0, a1, a2, a3, a4] (aI 48 :: r) σ := ev_go f_Tr_takeNumber_7 rfl
theorem f_Tr_takeNumber_9 : fetch 69 9 = some (.bipush 57) := by decide +kernel
theorem e_Tr_takeNumber_9 (a0 a1 a2 a3 a4 : AV) (σ : aM) (r : List AV)  : ev 69 9 [a0, a1, a2, a3, a4] (r) σ = ev 69 11 [a0, a1, a2, a3, a4] (aI 57 :: r) σ := ev_go f_Tr_takeNumber_9 rfl
theorem f_Tr_takeNumber_11 : fetch 69 11 = some (.invokevirtual 50) := by decide +kernel
theorem e_Tr_takeNumber_11 (a0 a1 a2 a3 a4 : AV) (σ : aM) (s0 : Int) (s1 : Option (Nat × Int)) (s2 : Int) (s3 : Int) : ev 69 11 [a0, a1, a2, a3, a4] [aI s3, aI s2, aQ s1, aR 19 s0] σ = evK 69 14 [a0, a1, a2, a3, a4] [] (ev 68 0 [aR 19 s0, aQ s1, aI s2, aI s3, aU] [] σ) := ev_call f_Tr_takeNumber_11 rfl rfl
theorem f_Tr_takeNumber_14 : fetch 69 14 = some (.bipush 48) := by decide +kernel
theorem e_Tr_takeNumber_14 (a0 a1 a2 a3 a4 : AV) (σ : aM) (r : List AV)  : ev 69 14 [a0, a1, a2, a3, a4] (r) σ = ev 69 16 [a0, a1, a2, a3, a4] (aI 48 :: r) σ := ev_go f_Tr_takeNumber_14 rfl
theorem f_Tr_takeNumber_16 : fetch 69 16 = some (.isub) := by decide +kernel
theorem e_Tr_takeNumber_16 (a0 a1 a2 a3 a4 : AV) (σ : aM) (x z : Int) (r : List AV)  : ev 69 16 [a0, a1, a2, a3, a4] (aI z :: aI x :: r) σ = ev 69 17 [a0, a1, a2, a3, a4] (aI (wr (x - z)) :: r) σ := ev_go f_Tr_takeNumber_16 rfl
theorem f_Tr_takeNumber_17 : fetch 69 17 = some (.istore_n 3) := by decide +kernel
theorem e_Tr_takeNumber_17 (a0 a1 a3 a4 : AV) (σ : aM) (x : Int) (l2 : Int) (r : List AV)  : ev 69 17 [a0, a1, aI l2, a3, a4] (aI x :: r) σ = ev 69 18 [a0, a1, aI l2, aI x, a4] (r) σ := ev_go f_Tr_takeNumber_17 rfl
theorem f_Tr_takeNumber_18 : fetch 69 18 = some (.iconst 1) := by decide +kernel
theorem e_Tr_takeNumber_18 (a0 a1 a2 a3 a4 : AV) (σ : aM) (r : List AV)  : ev 69 18 [a0, a1, a2, a3, a4] (r) σ = ev 69 19 [a0, a1, a2, a3, a4] (aI 1 :: r) σ := ev_go f_Tr_takeNumber_18 rfl
theorem f_Tr_takeNumber_19 : fetch 69 19 = some (.istore 4) := by decide +kernel
theorem e_Tr_takeNumber_19 (a0 a1 a2 a4 : AV) (σ : aM) (x : Int) (l3 : Int) (r : List AV)  : ev 69 19 [a0, a1, a2, aI l3, a4] (aI x :: r) σ = ev 69 21 [a0, a1, a2, aI l3, aI x] (r) σ := ev_go f_Tr_takeNumber_19 rfl
theorem f_Tr_takeNumber_21 : fetch 69 21 = some (.iload 4) := by decide +kernel
theorem e_Tr_takeNumber_21 (a0 a1 a2 a3 : AV) (σ : aM) (l4 : Int) (r : List AV)  : ev 69 21 [a0, a1, a2, a3, aI l4] (r) σ = ev 69 23 [a0, a1, a2, a3, aI l4] (aI l4 :: r) σ := ev_go f_Tr_takeNumber_21 rfl
theorem f_Tr_takeNumber_23 : fetch 69 23 = some (.iconst 3) := by decide +kernel
theorem e_Tr_takeNumber_23 (a0 a1 a2 a3 a4 : AV) (σ : aM) (r : List AV)  : ev 69 23 [a0, a1, a2, a3, a4] (r) σ = ev 69 24 [a0, a1, a2, a3, a4] (aI 3 :: r) σ := ev_go f_Tr_takeNumber_23 rfl
theorem f_Tr_takeNumber_24 : fetch 69 24 = some (.if_icmp .ge 35) := by decide +kernel
theorem e_Tr_takeNumber_24 (a0 a1 a2 a3 a4 : AV) (σ : aM) (x z : Int) (r : List AV) : ev 69 24 [a0, a1, a2, a3, a4] (aI z :: aI x :: r) σ = if z ≤ x then ev 69 59 [a0, a1, a2, a3, a4] r σ else ev 69 27 [a0, a1, a2, a3, a4] r σ := ev_br f_Tr_takeNumber_24 rfl bc_ge
theorem f_Tr_takeNumber_27 : fetch 69 27 = some (.aload_n 0) := by decide +kernel
theorem e_Tr_takeNumber_27 (a1 a2 a3 a4 : AV) (σ : aM) (l0 : Option (Nat × Int)) (r : List AV)  : ev 69 27 [aQ l0, a1, a2, a3, a4] (r) σ = ev 69 28 [aQ l0, a1, a2, a3, a4] (aQ l0 :: r) σ := ev_go f_Tr_takeNumber_27 rfl
theorem f_Tr_takeNumber_28 : fetch 69 28 = some (.aload_n 1) := by decide +kernel
theorem e_Tr_takeNumber_28 (a0 a2 a3 a4 : AV) (σ : aM) (l1 : Option (Nat × Int)) (r : List AV)  : ev 69 28 [a0, aQ l1, a2, a3, a4] (r) σ = ev 69 29 [a0, aQ l1, a2, a3, a4] (aQ l1 :: r) σ := ev_go f_Tr_takeNumber_28 rfl
theorem f_Tr_takeNumber_29 : fetch 69 29 = some (.invokevirtual 65) := by decide +kernel
theorem e_Tr_takeNumber_29 (a0 a1 a2 a3 a4 : AV) (σ : aM) (s0 : Int) (s1 : Option (Nat × Int)) : ev 69 29 [a0, a1, a2, a3, a4] [aQ s1, aR 19 s0] σ = evK 69 32 [a0, a1, a2, a3, a4] [] (ev 70 0 [aR 19 s0, aQ s1, aU] [] σ) := ev_call f_Tr_takeNumber_29 rfl rfl
theorem f_Tr_takeNumber_32 : fetch 69 32 = some (.ifCond .eq 27) := by decide +kernel
theorem e_Tr_takeNumber_32 (a0 a1 a2 a3 a4 : AV) (σ : aM) (x : Int) (r : List AV) : ev 69 32 [a0, a1, a2, a3, a4] (aI x :: r) σ = if x = 0 then ev 69 59 [a0, a1, a2, a3, a4] r σ else ev 69 35 [a0, a1, a2, a3, a4] r σ := ev_br f_Tr_takeNumber_32 rfl bc_eq
theorem f_Tr_takeNumber_35 : fetch 69 35 = some (.iload_n 3) := by decide +kernel
theorem e_Tr_takeNumber_35 (a0 a1 a2 a4 : AV) (σ : aM) (l3 : Int) (r : List AV)  : ev 69 35 [a0, a1, a2, aI l3, a4] (r) σ = ev 69 36 [a0, a1, a2, aI l3, a4] (aI l3 :: r) σ := ev_go f_Tr_takeNumber_35 rfl
theorem f_Tr_takeNumber_36 : fetch 69 36 = some (.bipush 10) := by decide +kernel
theorem e_Tr_takeNumber_36 (a0 a1 a2 a3 a4 : AV) (σ : aM) (r : List AV)  : ev 69 36 [a0, a1, a2, a3, a4] (r) σ = ev 69 38 [a0, a1, a2, a3, a4] (aI 10 :: r) σ := ev_go f_Tr_takeNumber_36 rfl
theorem f_Tr_takeNumber_38 : fetch 69 38 = some (.imul) := by decide +kernel
theorem e_Tr_takeNumber_38 (a0 a1 a2 a3 a4 : AV) (σ : aM) (x z : Int) (r : List AV)  : ev 69 38 [a0, a1, a2, a3, a4] (aI z :: aI x :: r) σ = ev 69 39 [a0, a1, a2, a3, a4] (aI (wr (x * z)) :: r) σ := ev_go f_Tr_takeNumber_38 rfl
theorem f_Tr_takeNumber_39 : fetch 69 39 = some (.aload_n 0) := by decide +kernel
theorem e_Tr_takeNumber_39 (a1 a2 a3 a4 : AV) (σ : aM) (l0 : Option (Nat × Int)) (r : List AV)  : ev 69 39 [aQ l0, a1, a2, a3, a4] (r) σ = ev 69 40 [aQ l0, a1, a2, a3, a4] (aQ l0 :: r) σ := ev_go f_Tr_takeNumber_39 rfl
theorem f_Tr_takeNumber_40 : fetch 69 40 = some (.aload_n 1) := by decide +kernel
theorem e_Tr_takeNumber_40 (a0 a2 a3 a4 : AV) (σ : aM) (l1 : Option (Nat × Int)) (r : List AV)  : ev 69 40 [a0, aQ l1, a2, a3, a4] (r) σ = ev 69 41 [a0, aQ l1, a2, a3, a4] (aQ l1 :: r) σ := ev_go f_Tr_takeNumber_40 rfl
theorem f_Tr_takeNumber_41 : fetch 69 41 = some (.bipush 48) := by decide +kernel
theorem e_Tr_takeNumber_41 (a0 a1 a2 a3 a4 : AV) (σ : aM) (r : List AV)  : ev 69 41 [a0, a1, a2, a3, a4] (r) σ = ev 69 43 [a0, a1, a2, a3, a4] (aI 48 :: r) σ := ev_go f_Tr_takeNumber_41 rfl
theorem f_Tr_takeNumber_43 : fetch 69 43 = some (.bipush 57) := by decide +kernel
theorem e_Tr_takeNumber_43 (a0 a1 a2 a3 a4 : AV) (σ : aM) (r : List AV)  : ev 69 43 [a0, a1, a2, a3, a4] (r) σ = ev 69 45 [a0, a1, a2, a3, a4] (aI 57 :: r) σ := ev_go f_Tr_takeNumber_43 rfl
theorem f_Tr_takeNumber_45 : fetch 69 45 = some (.invokevirtual 50) := by decide +kernel
theorem e_Tr_takeNumber_45 (a0 a1 a2 a3 a4 : AV) (σ : aM) (s0 : Int) (s1 : Int) (s2 : Option (Nat × Int)) (s3 : Int) (s4 : Int) : ev 69 45 [a0, a1, a2, a3, a4] [aI s4, aI s3, aQ s2, aR 19 s1, aI s0] σ = evK 69 48 [a0, a1, a2, a3, a4] [aI s0] (ev 68 0 [aR 19 s1, aQ s2, aI s3, aI s4, aU] [] σ) := ev_call f_Tr_takeNumber_45 rfl rfl
theorem f_Tr_takeNumber_48 : fetch 69 48 = some (.iadd) := by decide +kernel
theorem e_Tr_takeNumber_48 (a0 a1 a2 a3 a4 : AV) (σ : aM) (x z : Int) (r : List AV)  : ev 69 48 [a0, a1, a2, a3, a4] (aI z :: aI x :: r) σ = ev 69 49 [a0, a1, a2, a3, a4] (aI (wr (x + z)) :: r) σ := ev_go f_Tr_takeNumber_48 rfl
theorem f_Tr_takeNumber_49 : fetch 69 49 = some (.bipush 48) := by decide +kernel
theorem e_Tr_takeNumber_49 (a0 a1 a2 a3 a4 : AV) (σ : aM) (r : List AV)  : ev 69 49 [a0, a1, a2, a3, a4] (r) σ = ev 69 51 [a0, a1, a2, a3, a4] (aI 48 :: r) σ := ev_go f_Tr_takeNumber_49 rfl
theorem f_Tr_takeNumber_51 : fetch 69 51 = some (.isub) := by decide +kernel
theorem e_Tr_takeNumber_51 (a0 a1 a2 a3 a4 : AV) (σ : aM) (x z : Int) (r : List AV)  : ev 69 51 [a0, a1, a2, a3, a4] (aI z :: aI x :: r) σ = ev 69 52 [a0, a1, a2, a3, a4] (aI (wr (x - z)) :: r) σ := ev_go f_Tr_takeNumber_51 rfl
theorem f_Tr_takeNumber_52 : fetch 69 52 = some (.istore_n 3) := by decide +kernel
theorem e_Tr_takeNumber_52 (a0 a1 a3 a4 : AV) (σ : aM) (x : Int) (l2 : Int) (r : List AV)  : ev 69 52 [a0, a1, aI l2, a3, a4] (aI x :: r) σ = ev 69 53 [a0, a1, aI l2, aI x, a4] (r) σ := ev_go f_Tr_takeNumber_52 rfl
theorem f_Tr_takeNumber_53 : fetch 69 53 = some (.iinc 4 1) := by decide +kernel
theorem e_Tr_takeNumber_53 (a0 a1 a2 : AV) (σ : aM) (l4 : Int) (l3 : Int) (r : List AV)  : ev 69 53 [a0, a1, a2, aI l3, aI l4] (r) σ = ev 69 56 [a0, a1, a2, aI l3, aI (wr (l4 + 1))] (r) σ := ev_go f_Tr_takeNumber_53 rfl
theorem f_Tr_takeNumber_56 : fetch 69 56 = some (.goto (-35)) := by decide +kernel
theorem e_Tr_takeNumber_56 (a0 a1 a2 a3 a4 : AV) (σ : aM) (r : List AV)  : ev 69 56 [a0, a1, a2, a3, a4] (r) σ = ev 69 21 [a0, a1, a2, a3, a4] (r) σ := ev_go f_Tr_takeNumber_56 rfl
theorem f_Tr_takeNumber_59 : fetch 69 59 = some (.aload_n 0) := by decide +kernel
theorem e_Tr_takeNumber_59 (a1 a2 a3 a4 : AV) (σ : aM) (l0 : Option (Nat × Int)) (r : List AV)  : ev 69 59 [aQ l0, a1, a2, a3, a4] (r) σ = ev 69 60 [aQ l0, a1, a2, a3, a4] (aQ l0 :: r) σ := ev_go f_Tr_takeNumber_59 rfl
theorem f_Tr_takeNumber_60 : fetch 69 60 = some (.getfield 34) := by decide +kernel
theorem e_Tr_takeNumber_60 (a0 a1 a2 a3 a4 : AV) (σ : aM) (i : Int) (r : List AV)  : ev 69 60 [a0, a1, a2, a3, a4] (aR 19 i :: r) σ = ev 69 63 [a0, a1, a2, a3, a4] (aI (gI σ 19 i 7) :: r) σ := ev_go f_Tr_takeNumber_60 rfl
theorem f_Tr_takeNumber_63 : fetch 69 63 = some (.iconst (-1)) := by decide +kernel
theorem e_Tr_takeNumber_63 (a0 a1 a2 a3 a4 : AV) (σ : aM) (r : List AV)  : ev 69 63 [a0, a1, a2, a3, a4] (r) σ = ev 69 64 [a0, a1, a2, a3, a4] (aI (-1) :: r) σ := ev_go f_Tr_takeNumber_63 rfl
theorem f_Tr_takeNumber_64 : fetch 69 64 = some (.if_icmp .ne 15) := by decide +kernel
theorem e_Tr_takeNumber_64 (a0 a1 a2 a3 a4 : AV) (σ : aM) (x z : Int) (r : List AV) : ev 69 64 [a0, a1, a2, a3, a4] (aI z :: aI x :: r) σ = if ¬ x = z then ev 69 79 [a0, a1, a2, a3, a4] r σ else ev 69 67 [a0, a1, a2, a3, a4] r σ := ev_br f_Tr_takeNumber_64 rfl bc_ne
theorem f_Tr_takeNumber_67 : fetch 69 67 = some (.iload_n 3) := by decide +kernel
theorem e_Tr_takeNumber_67 (a0 a1 a2 a4 : AV) (σ : aM) (l3 : Int) (r : List AV)  : ev 69 67 [a0, a1, a2, aI l3, a4] (r) σ = ev 69 68 [a0, a1, a2, aI l3, a4] (aI l3 :: r) σ := ev_go f_Tr_takeNumber_67 rfl
theorem f_Tr_takeNumber_68 : fetch 69 68 = some (.invokestatic 69) := by decide +kernel
theorem e_Tr_takeNumber_68 (a0 a1 a2 a3 a4 : AV) (σ : aM) (s0 : Int) : ev 69 68 [a0, a1, a2, a3, a4] [aI s0] σ = evK 69 71 [a0, a1, a2, a3, a4] [] (ev 120 0 [aI s0] [] σ) := ev_call f_Tr_takeNumber_68 rfl rfl
theorem f_Tr_takeNumber_71 : fetch 69 71 = some (.ifCond .ne 8) := by decide +kernel
theorem e_Tr_takeNumber_71 (a0 a1 a2 a3 a4 : AV) (σ : aM) (x : Int) (r : List AV) : ev 69 71 [a0, a1, a2, a3, a4] (aI x :: r) σ = if ¬ x = 0 then ev 69 79 [a0, a1, a2, a3, a4] r σ else ev 69 74 [a0, a1, a2, a3, a4] r σ := ev_br f_Tr_takeNumber_71 rfl bc_ne
theorem f_Tr_takeNumber_74 : fetch 69 74 = some (.aload_n 0) := by decide +kernel
theorem e_Tr_takeNumber_74 (a1 a2 a3 a4 : AV) (σ : aM) (l0 : Option (Nat × Int)) (r : List AV)  : ev 69 74 [aQ l0, a1, a2, a3, a4] (r) σ = ev 69 75 [aQ l0, a1, a2, a3, a4] (aQ l0 :: r) σ := ev_go f_Tr_takeNumber_74 rfl
theorem f_Tr_takeNumber_75 : fetch 69 75 = some (.iload_n 2) := by decide +kernel
theorem e_Tr_takeNumber_75 (a0 a1 a3 a4 : AV) (σ : aM) (l2 : Int) (r : List AV)  : ev 69 75 [a0, a1, aI l2, a3, a4] (r) σ = ev 69 76 [a0, a1, aI l2, a3, a4] (aI l2 :: r) σ := ev_go f_Tr_takeNumber_75 rfl
theorem f_Tr_takeNumber_76 : fetch 69 76 = some (.putfield 34) := by decide +kernel
theorem e_Tr_takeNumber_76 (a0 a1 a2 a3 a4 : AV) (σ : aM) (i : Int) (x : Int) (r : List AV)  : ev 69 76 [a0, a1, a2, a3, a4] (aI x :: aR 19 i :: r) σ = ev 69 79 [a0, a1, a2, a3, a4] (r) (uI σ 19 i 7 x) := ev_go f_Tr_takeNumber_76 rfl
theorem f_Tr_takeNumber_79 : fetch 69 79 = some (.iload_n 3) := by decide +kernel
theorem e_Tr_takeNumber_79 (a0 a1 a2 a4 : AV) (σ : aM) (l3 : Int) (r : List AV)  : ev 69 79 [a0, a1, a2, aI l3, a4] (r) σ = ev 69 80 [a0, a1, a2, aI l3, a4] (aI l3 :: r) σ := ev_go f_Tr_takeNumber_79 rfl
theorem f_Tr_takeNumber_80 : fetch 69 80 = some (.ireturn) := by decide +kernel
theorem e_Tr_takeNumber_80 (a0 a1 a2 a3 a4 : AV) (σ : aM) (x : Int) : ev 69 80 [a0, a1, a2, a3, a4] [aI x] σ = some ((some (aI x)), σ) := ev_ret f_Tr_takeNumber_80 rfl
theorem f_Tr_isDigitNext_0 : fetch 70 0 = some (.aload_n 0) := by decide +kernel
theorem e_Tr_isDigitNext_0 (a1 a2 : AV) (σ : aM) (l0 : Option (Nat × Int)) (r : List AV)  : ev 70 0 [aQ l0, a1, a2] (r) σ = ev 70 1 [aQ l0, a1, a2] (aQ l0 :: r) σ := ev_go f_Tr_isDigitNext_0 rfl
theorem f_Tr_isDigitNext_1 : fetch 70 1 = some (.aload_n 1) := by decide +kernel
theorem e_Tr_isDigitNext_1 (a0 a2 : AV) (σ : aM) (l1 : Option (Nat × Int)) (r : List AV)  : ev 70 1 [a0, aQ l1, a2] (r) σ = ev 70 2 [a0, aQ l1, a2] (aQ l1 :: r) σ := ev_go f_Tr_isDigitNext_1 rfl
theorem f_Tr_isDigitNext_2 : fetch 70 2 = some (.invokevirtual 54) := by decide +kernel
theorem e_Tr_isDigitNext_2 (a0 a1 a2 : AV) (σ : aM) (s0 : Int) (s1 : Option (Nat × Int)) : ev 70 2 [a0, a1, a2] [aQ s1, aR 19 s0] σ = evK 70 5 [a0, a1, a2] [] (ev 66 0 [aR 19 s0, aQ s1] [] σ) := ev_call f_Tr_isDigitNext_2 rfl rfl
theorem f_Tr_isDigitNext_5 : fetch 70 5 = some (.istore_n 2) := by decide +kernel
theorem e_Tr_isDigitNext_5 (a0 a2 : AV) (σ : aM) (x : Int) (l1 : Option (Nat × Int)) (r : List AV)  : ev 70 5 [a0, aQ l1, a2] (aI x :: r) σ = ev 70 6 [a0, aQ l1, aI x] (r) σ := ev_go f_Tr_isDigitNext_5 rfl
theorem f_Tr_isDigitNext_6 : fetch 70 6 = some (.aload_n 0) := by decide +kernel
theorem e_Tr_isDigitNext_6 (a1 a2 : AV) (σ : aM) (l0 : Option (Nat × Int)) (r : List AV)  : ev 70 6 [aQ l0, a1, a2] (r) σ = ev 70 7 [aQ l0, a1, a2] (aQ l0 :: r) σ := ev_go f_Tr_isDigitNext_6 rfl
theorem f_Tr_isDigitNext_7 : fetch 70 7 = some (.getfield 34) := by decide +kernel
theorem e_Tr_isDigitNext_7 (a0 a1 a2 : AV) (σ : aM) (i : Int) (r : List AV)  : ev 70 7 [a0, a1, a2] (aR 19 i :: r) σ = ev 70 10 [a0, a1, a2] (aI (gI σ 19 i 7) :: r) σ := ev_go f_Tr_isDigitNext_7 rfl
theorem f_Tr_isDigitNext_10 : fetch 70 10 = some (.iconst (-1)) := by decide +kernel
theorem e_Tr_isDigitNext_10 (a0 a1 a2 : AV) (σ : aM) (r : List AV)  : ev 70 10 [a0, a1, a2] (r) σ = ev 70 11 [a0, a1, a2] (aI (-1) :: r) σ := ev_go f_Tr_isDigitNext_10 rfl
theorem f_Tr_isDigitNext_11 : fetch 70 11 = some (.if_icmp .ne 19) := by decide +kernel
theorem e_Tr_isDigitNext_11 (a0 a1 a2 : AV) (σ : aM) (x z : Int) (r : List AV) : ev 70 11 [a0, a1, a2] (aI z :: aI x :: r) σ = if ¬ x = z then ev 70 30 [a0, a1, a2] r σ else ev 70 14 [a0, a1, a2] r σ := ev_br f_Tr_isDigitNext_11 rfl bc_ne
theorem f_Tr_isDigitNext_14 : fetch 70 14 = some (.iload_n 2) := by decide +kernel
theorem e_Tr_isDigitNext_14 (a0 a1 : AV) (σ : aM) (l2 : Int) (r : List AV)  : ev 70 14 [a0, a1, aI l2] (r) σ = ev 70 15 [a0, a1, aI l2] (aI l2 :: r) σ := ev_go f_Tr_isDigitNext_14 rfl
theorem f_Tr_isDigitNext_15 : fetch 70 15 = some (.bipush 48) := by decide +kernel
theorem e_Tr_isDigitNext_15 (a0 a1 a2 : AV) (σ : aM) (r : List AV)  : ev 70 15 [a0, a1, a2] (r) σ = ev 70 17 [a0, a1, a2] (aI 48 :: r) σ := ev_go f_Tr_isDigitNext_15 rfl
theorem f_Tr_isDigitNext_17 : fetch 70 17 = some (.if_icmp .lt 13) := by decide +kernel
theorem e_Tr_isDigitNext_17 (a0 a1 a2 : AV) (σ : aM) (x z : Int) (r : List AV) : ev 70 17 [a0, a1, a2] (aI z :: aI x :: r) σ = if x < z then ev 70 30 [a0, a1, a2] r σ else ev 70 20 [a0, a1, a2] r σ := ev_br f_Tr_isDigitNext_17 rfl bc_lt
theorem f_Tr_isDigitNext_20 : fetch 70 20 = some (.iload_n 2) := by decide +kernel
theorem e_Tr_isDigitNext_20 (a0 a1 : AV) (σ : aM) (l2 : Int) (r : List AV)  : ev 70 20 [a0, a1, aI l2] (r) σ = ev 70 21 [a0, a1, aI l2] (aI l2 :: r) σ := ev_go f_Tr_isDigitNext_20 rfl
theorem f_Tr_isDigitNext_21 : fetch 70 21 = some (.bipush 57) := by decide +kernel
theorem e_Tr_isDigitNext_21 (a0 a1 a2 : AV) (σ : aM) (r : List AV)  : ev 70 21 [a0, a1, a2] (r) σ = ev 70 23 [a0, a1, a2] (aI 57 :: r) σ := ev_go f_Tr_isDigitNext_21 rfl
theorem f_Tr_isDigitNext_23 : fetch 70 23 = some (.if_icmp .gt 7) := by decide +kernel
theorem e_Tr_isDigitNext_23 (a0 a1 a2 : AV) (σ : aM) (x z : Int) (r : List AV) : ev 70 23 [a0, a1, a2] (aI z :: aI x :: r) σ = if z < x then ev 70 30 [a0, a1, a2] r σ else ev 70 26 [a0, a1, a2] r σ := ev_br f_Tr_isDigitNext_23 rfl bc_gt
theorem f_Tr_isDigitNext_26 : fetch 70 26 = some (.iconst 1) := by decide +kernel
theorem e_Tr_isDigitNext_26 (a0 a1 a2 : AV) (σ : aM) (r : List AV)  : ev 70 26 [a0, a1, a2] (r) σ = ev 70 27 [a0, a1, a2] (aI 1 :: r) σ := ev_go f_Tr_isDigitNext_26 rfl
theorem f_Tr_isDigitNext_27 : fetch 70 27 = some (.goto 4) := by decide +kernel
theorem e_Tr_isDigitNext_27 (a0 a1 a2 : AV) (σ : aM) (r : List AV)  : ev 70 27 [a0, a1, a2] (r) σ = ev 70 31 [a0, a1, a2] (r) σ := ev_go f_Tr_isDigitNext_27 rfl
theorem f_Tr_isDigitNext_30 : fetch 70 30 = some (.iconst 0) := by decide +kernel
theorem e_Tr_isDigitNext_30 (a0 a1 a2 : AV) (σ : aM) (r : List AV)  : ev 70 30 [a0, a1, a2] (r) σ = ev 70 31 [a0, a1, a2] (aI 0 :: r) σ := ev_go f_Tr_isDigitNext_30 rfl
theorem f_Tr_isDigitNext_31 : fetch 70 31 = some (.ireturn) := by decide +kernel
theorem e_Tr_isDigitNext_31 (a0 a1 a2 : AV) (σ : aM) (x : Int) (h : x = 0 ∨ x = 1) : ev 70 31 [a0, a1, a2] [aI x] σ = some ((some (aI x)), σ) := ev_rB f_Tr_isDigitNext_31 rfl h
theorem f_Lg_takeOver_0 : fetch 72 0 = some (.aload_n 1) := by decide +kernel
theorem e_Lg_takeOver_0 (a0 : AV) (σ : aM) (l1 : Option (Nat × Int)) (r : List AV)  : ev 72 0 [a0, aQ l1] (r) σ = ev 72 1 [a0, aQ l1] (aQ l1 :: r) σ := ev_go f_Lg_takeOver_0 rfl
theorem f_Lg_takeOver_1 : fetch 72 1 = some (.getfield 9) := by decide +kernel
theorem e_Lg_takeOver_1 (a0 a1 : AV) (σ : aM) (i : Int) (r : List AV)  : ev 72 1 [a0, a1] (aR 9 i :: r) σ = ev 72 4 [a0, a1] (aR 10 i :: r) σ := ev_go f_Lg_takeOver_1 rfl
theorem f_Lg_takeOver_4 : fetch 72 4 = some (.iconst 0) := by decide +kernel
theorem e_Lg_takeOver_4 (a0 a1 : AV) (σ : aM) (r : List AV)  : ev 72 4 [a0, a1] (r) σ = ev 72 5 [a0, a1] (aI 0 :: r) σ := ev_go f_Lg_takeOver_4 rfl
theorem f_Lg_takeOver_5 : fetch 72 5 = some (.aload_n 0) := by decide +kernel
theorem e_Lg_takeOver_5 (a1 : AV) (σ : aM) (l0 : Option (Nat × Int)) (r : List AV)  : ev 72 5 [aQ l0, a1] (r) σ = ev 72 6 [aQ l0, a1] (aQ l0 :: r) σ := ev_go f_Lg_takeOver_5 rfl
theorem f_Lg_takeOver_6 : fetch 72 6 = some (.getfield 9) := by decide +kernel
theorem e_Lg_takeOver_6 (a0 a1 : AV) (σ : aM) (i : Int) (r : List AV)  : ev 72 6 [a0, a1] (aR 9 i :: r) σ = ev 72 9 [a0, a1] (aR 10 i :: r) σ := ev_go f_Lg_takeOver_6 rfl
theorem f_Lg_takeOver_9 : fetch 72 9 = some (.iconst 0) := by decide +kernel
theorem e_Lg_takeOver_9 (a0 a1 : AV) (σ : aM) (r : List AV)  : ev 72 9 [a0, a1] (r) σ = ev 72 10 [a0, a1] (aI 0 :: r) σ := ev_go f_Lg_takeOver_9 rfl
theorem f_Lg_takeOver_10 : fetch 72 10 = some (.aload_n 0) := by decide +kernel
theorem e_Lg_takeOver_10 (a1 : AV) (σ : aM) (l0 : Option (Nat × Int)) (r : List AV)  : ev 72 10 [aQ l0, a1] (r) σ = ev 72 11 [aQ l0, a1] (aQ l0 :: r) σ := ev_go f_Lg_takeOver_10 rfl
theorem f_Lg_takeOver_11 : fetch 72 11 = some (.getfield 9) := by decide +kernel
theorem e_Lg_takeOver_11 (a0 a1 : AV) (σ : aM) (i : Int) (r : List AV)  : ev 72 11 [a0, a1] (aR 9 i :: r) σ = ev 72 14 [a0, a1] (aR 10 i :: r) σ := ev_go f_Lg_takeOver_11 rfl
theorem f_Lg_takeOver_14 : fetch 72 14 = some (.arraylength) := by decide +kernel
theorem e_Lg_takeOver_14 (a0 a1 : AV) (σ : aM) (i : Int) (r : List AV)  : ev 72 14 [a0, a1] (aR 10 i :: r) σ = ev 72 15 [a0, a1] (aI 800 :: r) σ := ev_go f_Lg_takeOver_14 rfl
theorem f_Lg_takeOver_15 : fetch 72 15 = some (.invokestatic 28) := by decide +kernel
theorem e_Lg_takeOver_15 (a0 a1 : AV) (σ : aM) (s0 : Int) (s1 : Int) (s2 : Int) (s3 : Int) (s4 : Int) (h : 0 ≤ s1 ∧ 0 ≤ s3 ∧ 0 ≤ s4 ∧ s1 + s4 ≤ 800 ∧ s3 + s4 ≤ 800) : ev 72 15 [a0, a1] [aI s4, aI s3, aR 10 s2, aI s1, aR 10 s0] σ = ev 72 18 [a0, a1] [] (kI σ 10 s0 s1 10 s2 s3 s4) := ev_cd f_Lg_takeOver_15 rfl ⟨rfl, rfl, by decide, by decide, h.1, h.2.1, h.2.2.1, h.2.2.2.1, h.2.2.2.2, by decide, by decide, rfl⟩
theorem f_Lg_takeOver_18 : fetch 72 18 = some (.aload_n 1) := by decide +kernel
theorem e_Lg_takeOver_18 (a0 : AV) (σ : aM) (l1 : Option (Nat × Int)) (r : List AV)  : ev 72 18 [a0, aQ l1] (r) σ = ev 72 19 [a0, aQ l1] (aQ l1 :: r) σ := ev_go f_Lg_takeOver_18 rfl
theorem f_Lg_takeOver_19 : fetch 72 19 = some (.getfield 15) := by decide +kernel
theorem e_Lg_takeOver_19 (a0 a1 : AV) (σ : aM) (i : Int) (r : List AV)  : ev 72 19 [a0, a1] (aR 9 i :: r) σ = ev 72 22 [a0, a1] (aR 11 i :: r) σ := ev_go f_Lg_takeOver_19 rfl
theorem f_Lg_takeOver_22 : fetch 72 22 = some (.iconst 0) := by decide +kernel
theorem e_Lg_takeOver_22 (a0 a1 : AV) (σ : aM) (r : List AV)  : ev 72 22 [a0, a1] (r) σ = ev 72 23 [a0, a1] (aI 0 :: r) σ := ev_go f_Lg_takeOver_22 rfl
theorem f_Lg_takeOver_23 : fetch 72 23 = some (.aload_n 0) := by decide +kernel
theorem e_Lg_takeOver_23 (a1 : AV) (σ : aM) (l0 : Option (Nat × Int)) (r : List AV)  : ev 72 23 [aQ l0, a1] (r) σ = ev 72 24 [aQ l0, a1] (aQ l0 :: r) σ := ev_go f_Lg_takeOver_23 rfl
theorem f_Lg_takeOver_24 : fetch 72 24 = some (.getfield 15) := by decide +kernel
theorem e_Lg_takeOver_24 (a0 a1 : AV) (σ : aM) (i : Int) (r : List AV)  : ev 72 24 [a0, a1] (aR 9 i :: r) σ = ev 72 27 [a0, a1] (aR 11 i :: r) σ := ev_go f_Lg_takeOver_24 rfl
theorem f_Lg_takeOver_27 : fetch 72 27 = some (.iconst 0) := by decide +kernel
theorem e_Lg_takeOver_27 (a0 a1 : AV) (σ : aM) (r : List AV)  : ev 72 27 [a0, a1] (r) σ = ev 72 28 [a0, a1] (aI 0 :: r) σ := ev_go f_Lg_takeOver_27 rfl
theorem f_Lg_takeOver_28 : fetch 72 28 = some (.bipush 8) := by decide +kernel
theorem e_Lg_takeOver_28 (a0 a1 : AV) (σ : aM) (r : List AV)  : ev 72 28 [a0, a1] (r) σ = ev 72 30 [a0, a1] (aI 8 :: r) σ := ev_go f_Lg_takeOver_28 rfl
theorem f_Lg_takeOver_30 : fetch 72 30 = some (.invokestatic 28) := by decide +kernel
theorem e_Lg_takeOver_30 (a0 a1 : AV) (σ : aM) (s0 : Int) (s1 : Int) (s2 : Int) (s3 : Int) (s4 : Int) (h : 0 ≤ s1 ∧ 0 ≤ s3 ∧ 0 ≤ s4 ∧ s1 + s4 ≤ 8 ∧ s3 + s4 ≤ 8) : ev 72 30 [a0, a1] [aI s4, aI s3, aR 11 s2, aI s1, aR 11 s0] σ = ev 72 33 [a0, a1] [] (kI σ 11 s0 s1 11 s2 s3 s4) := ev_cd f_Lg_takeOver_30 rfl ⟨rfl, rfl, by decide, by decide, h.1, h.2.1, h.2.2.1, h.2.2.2.1, h.2.2.2.2, by decide, by decide, rfl⟩
theorem f_Lg_takeOver_33 : fetch 72 33 = some (.aload_n 1) := by decide +kernel
theorem e_Lg_takeOver_33 (a0 : AV) (σ : aM) (l1 : Option (Nat × Int)) (r : List AV)  : ev 72 33 [a0, aQ l1] (r) σ = ev 72 34 [a0, aQ l1] (aQ l1 :: r) σ := ev_go f_Lg_takeOver_33 rfl
theorem f_Lg_takeOver_34 : fetch 72 34 = some (.getfield 18) := by decide +kernel
theorem e_Lg_takeOver_34 (a0 a1 : AV) (σ : aM) (i : Int) (r : List AV)  : ev 72 34 [a0, a1] (aR 9 i :: r) σ = ev 72 37 [a0, a1] (aR 12 i :: r) σ := ev_go f_Lg_takeOver_34 rfl
theorem f_Lg_takeOver_37 : fetch 72 37 = some (.iconst 0) := by decide +kernel
theorem e_Lg_takeOver_37 (a0 a1 : AV) (σ : aM) (r : List AV)  : ev 72 37 [a0, a1] (r) σ = ev 72 38 [a0, a1] (aI 0 :: r) σ := ev_go f_Lg_takeOver_37 rfl
theorem f_Lg_takeOver_38 : fetch 72 38 = some (.aload_n 0) := by decide +kernel
theorem e_Lg_takeOver_38 (a1 : AV) (σ : aM) (l0 : Option (Nat × Int)) (r : List AV)  : ev 72 38 [aQ l0, a1] (r) σ = ev 72 39 [aQ l0, a1] (aQ l0 :: r) σ := ev_go f_Lg_takeOver_38 rfl
theorem f_Lg_takeOver_39 : fetch 72 39 = some (.getfield 18) := by decide +kernel
theorem e_Lg_takeOver_39 (a0 a1 : AV) (σ : aM) (i : Int) (r : List AV)  : ev 72 39 [a0, a1] (aR 9 i :: r) σ = ev 72 42 [a0, a1] (aR 12 i :: r) σ := ev_go f_Lg_takeOver_39 rfl
theorem f_Lg_takeOver_42 : fetch 72 42 = some (.iconst 0) := by decide +kernel
theorem e_Lg_takeOver_42 (a0 a1 : AV) (σ : aM) (r : List AV)  : ev 72 42 [a0, a1] (r) σ = ev 72 43 [a0, a1] (aI 0 :: r) σ := ev_go f_Lg_takeOver_42 rfl
theorem f_Lg_takeOver_43 : fetch 72 43 = some (.bipush 8) := by decide +kernel
theorem e_Lg_takeOver_43 (a0 a1 : AV) (σ : aM) (r : List AV)  : ev 72 43 [a0, a1] (r) σ = ev 72 45 [a0, a1] (aI 8 :: r) σ := ev_go f_Lg_takeOver_43 rfl
theorem f_Lg_takeOver_45 : fetch 72 45 = some (.invokestatic 28) := by decide +kernel
theorem e_Lg_takeOver_45 (a0 a1 : AV) (σ : aM) (s0 : Int) (s1 : Int) (s2 : Int) (s3 : Int) (s4 : Int) (h : 0 ≤ s1 ∧ 0 ≤ s3 ∧ 0 ≤ s4 ∧ s1 + s4 ≤ 8 ∧ s3 + s4 ≤ 8) : ev 72 45 [a0, a1] [aI s4, aI s3, aR 12 s2, aI s1, aR 12 s0] σ = ev 72 48 [a0, a1] [] (kI σ 12 s0 s1 12 s2 s3 s4) := ev_cd f_Lg_takeOver_45 rfl ⟨rfl, rfl, by decide, by decide, h.1, h.2.1, h.2.2.1, h.2.2.2.1, h.2.2.2.2, by decide, by decide, rfl⟩
theorem f_Lg_takeOver_48 : fetch 72 48 = some (.aload_n 0) := by decide +kernel
theorem e_Lg_takeOver_48 (a1 : AV) (σ : aM) (l0 : Option (Nat × Int)) (r : List AV)  : ev 72 48 [aQ l0, a1] (r) σ = ev 72 49 [aQ l0, a1] (aQ l0 :: r) σ := ev_go f_Lg_takeOver_48 rfl
theorem f_Lg_takeOver_49 : fetch 72 49 = some (.aload_n 1) := by decide +kernel
theorem e_Lg_takeOver_49 (a0 : AV) (σ : aM) (l1 : Option (Nat × Int)) (r : List AV)  : ev 72 49 [a0, aQ l1] (r) σ = ev 72 50 [a0, aQ l1] (aQ l1 :: r) σ := ev_go f_Lg_takeOver_49 rfl
theorem f_Lg_takeOver_50 : fetch 72 50 = some (.getfield 21) := by decide +kernel
theorem e_Lg_takeOver_50 (a0 a1 : AV) (σ : aM) (i : Int) (r : List AV)  : ev 72 50 [a0, a1] (aR 9 i :: r) σ = ev 72 53 [a0, a1] (aI (gI σ 9 i 3) :: r) σ := ev_go f_Lg_takeOver_50 rfl
theorem f_Lg_takeOver_53 : fetch 72 53 = some (.putfield 21) := by decide +kernel
theorem e_Lg_takeOver_53 (a0 a1 : AV) (σ : aM) (i : Int) (x : Int) (r : List AV)  : ev 72 53 [a0, a1] (aI x :: aR 9 i :: r) σ = ev 72 56 [a0, a1] (r) (uI σ 9 i 3 x) := ev_go f_Lg_takeOver_53 rfl
theorem f_Lg_takeOver_56 : fetch 72 56 = some (.aload_n 0) := by decide +kernel
theorem e_Lg_takeOver_56 (a1 : AV) (σ : aM) (l0 : Option (Nat × Int)) (r : List AV)  : ev 72 56 [aQ l0, a1] (r) σ = ev 72 57 [aQ l0, a1] (aQ l0 :: r) σ := ev_go f_Lg_takeOver_56 rfl
theorem f_Lg_takeOver_57 : fetch 72 57 = some (.aload_n 1) := by decide +kernel
theorem e_Lg_takeOver_57 (a0 : AV) (σ : aM) (l1 : Option (Nat × Int)) (r : List AV)  : ev 72 57 [a0, aQ l1] (r) σ = ev 72 58 [a0, aQ l1] (aQ l1 :: r) σ := ev_go f_Lg_takeOver_57 rfl
theorem f_Lg_takeOver_58 : fetch 72 58 = some (.getfield 25) := by decide +kernel
theorem e_Lg_takeOver_58 (a0 a1 : AV) (σ : aM) (i : Int) (r : List AV)  : ev 72 58 [a0, a1] (aR 9 i :: r) σ = ev 72 61 [a0, a1] (aI (gI σ 9 i 4) :: r) σ := ev_go f_Lg_takeOver_58 rfl
theorem f_Lg_takeOver_61 : fetch 72 61 = some (.putfield 25) := by decide +kernel
theorem e_Lg_takeOver_61 (a0 a1 : AV) (σ : aM) (i : Int) (x : Int) (r : List AV)  : ev 72 61 [a0, a1] (aI x :: aR 9 i :: r) σ = ev 72 64 [a0, a1] (r) (uI σ 9 i 4 x) := ev_go f_Lg_takeOver_61 rfl
theorem f_Lg_takeOver_64 : fetch 72 64 = some (.return_) := by decide +kernel
theorem e_Lg_takeOver_64 (a0 a1 : AV) (σ : aM)  : ev 72 64 [a0, a1] [] σ = some (none, σ) := ev_ret f_Lg_takeOver_64 rfl
theorem f_Lg_note_0 : fetch 73 0 = some (.aload_n 0) := by decide +kernel
theorem e_Lg_note_0 (a1 a2 a3 a4 a5 : AV) (σ : aM) (l0 : Option (Nat × Int)) (r : List AV)  : ev 73 0 [aQ l0, a1, a2, a3, a4, a5] (r) σ = ev 73 1 [aQ l0, a1, a2, a3, a4, a5] (aQ l0 :: r) σ := ev_go f_Lg_note_0 rfl
theorem f_Lg_note_1 : fetch 73 1 = some (.getfield 21) := by decide +kernel
theorem e_Lg_note_1 (a0 a1 a2 a3 a4 a5 : AV) (σ : aM) (i : Int) (r : List AV)  : ev 73 1 [a0, a1, a2, a3, a4, a5] (aR 9 i :: r) σ = ev 73 4 [a0, a1, a2, a3, a4, a5] (aI (gI σ 9 i 3) :: r) σ := ev_go f_Lg_note_1 rfl
theorem f_Lg_note_4 : fetch 73 4 = some (.sipush 200) := by decide +kernel
theorem e_Lg_note_4 (a0 a1 a2 a3 a4 a5 : AV) (σ : aM) (r : List AV)  : ev 73 4 [a0, a1, a2, a3, a4, a5] (r) σ = ev 73 7 [a0, a1, a2, a3, a4, a5] (aI 200 :: r) σ := ev_go f_Lg_note_4 rfl
theorem f_Lg_note_7 : fetch 73 7 = some (.if_icmp .ge 56) := by decide +kernel
theorem e_Lg_note_7 (a0 a1 a2 a3 a4 a5 : AV) (σ : aM) (x z : Int) (r : List AV) : ev 73 7 [a0, a1, a2, a3, a4, a5] (aI z :: aI x :: r) σ = if z ≤ x then ev 73 63 [a0, a1, a2, a3, a4, a5] r σ else ev 73 10 [a0, a1, a2, a3, a4, a5] r σ := ev_br f_Lg_note_7 rfl bc_ge
theorem f_Lg_note_10 : fetch 73 10 = some (.aload_n 0) := by decide +kernel
theorem e_Lg_note_10 (a1 a2 a3 a4 a5 : AV) (σ : aM) (l0 : Option (Nat × Int)) (r : List AV)  : ev 73 10 [aQ l0, a1, a2, a3, a4, a5] (r) σ = ev 73 11 [aQ l0, a1, a2, a3, a4, a5] (aQ l0 :: r) σ := ev_go f_Lg_note_10 rfl
theorem f_Lg_note_11 : fetch 73 11 = some (.getfield 21) := by decide +kernel
theorem e_Lg_note_11 (a0 a1 a2 a3 a4 a5 : AV) (σ : aM) (i : Int) (r : List AV)  : ev 73 11 [a0, a1, a2, a3, a4, a5] (aR 9 i :: r) σ = ev 73 14 [a0, a1, a2, a3, a4, a5] (aI (gI σ 9 i 3) :: r) σ := ev_go f_Lg_note_11 rfl
theorem f_Lg_note_14 : fetch 73 14 = some (.iconst 4) := by decide +kernel
theorem e_Lg_note_14 (a0 a1 a2 a3 a4 a5 : AV) (σ : aM) (r : List AV)  : ev 73 14 [a0, a1, a2, a3, a4, a5] (r) σ = ev 73 15 [a0, a1, a2, a3, a4, a5] (aI 4 :: r) σ := ev_go f_Lg_note_14 rfl
theorem f_Lg_note_15 : fetch 73 15 = some (.imul) := by decide +kernel
theorem e_Lg_note_15 (a0 a1 a2 a3 a4 a5 : AV) (σ : aM) (x z : Int) (r : List AV)  : ev 73 15 [a0, a1, a2, a3, a4, a5] (aI z :: aI x :: r) σ = ev 73 16 [a0, a1, a2, a3, a4, a5] (aI (wr (x * z)) :: r) σ := ev_go f_Lg_note_15 rfl
theorem f_Lg_note_16 : fetch 73 16 = some (.istore 5) := by decide +kernel
theorem e_Lg_note_16 (a0 a1 a2 a3 a5 : AV) (σ : aM) (x : Int) (l4 : Int) (r : List AV)  : ev 73 16 [a0, a1, a2, a3, aI l4, a5] (aI x :: r) σ = ev 73 18 [a0, a1, a2, a3, aI l4, aI x] (r) σ := ev_go f_Lg_note_16 rfl
theorem f_Lg_note_18 : fetch 73 18 = some (.aload_n 0) := by decide +kernel
theorem e_Lg_note_18 (a1 a2 a3 a4 a5 : AV) (σ : aM) (l0 : Option (Nat × Int)) (r : List AV)  : ev 73 18 [aQ l0, a1, a2, a3, a4, a5] (r) σ = ev 73 19 [aQ l0, a1, a2, a3, a4, a5] (aQ l0 :: r) σ := ev_go f_Lg_note_18 rfl
theorem f_Lg_note_19 : fetch 73 19 = some (.getfield 9) := by decide +kernel
theorem e_Lg_note_19 (a0 a1 a2 a3 a4 a5 : AV) (σ : aM) (i : Int) (r : List AV)  : ev 73 19 [a0, a1, a2, a3, a4, a5] (aR 9 i :: r) σ = ev 73 22 [a0, a1, a2, a3, a4, a5] (aR 10 i :: r) σ := ev_go f_Lg_note_19 rfl
theorem f_Lg_note_22 : fetch 73 22 = some (.iload 5) := by decide +kernel
theorem e_Lg_note_22 (a0 a1 a2 a3 a4 : AV) (σ : aM) (l5 : Int) (r : List AV)  : ev 73 22 [a0, a1, a2, a3, a4, aI l5] (r) σ = ev 73 24 [a0, a1, a2, a3, a4, aI l5] (aI l5 :: r) σ := ev_go f_Lg_note_22 rfl
theorem f_Lg_note_24 : fetch 73 24 = some (.aload_n 1) := by decide +kernel
theorem e_Lg_note_24 (a0 a2 a3 a4 a5 : AV) (σ : aM) (l1 : Option (Nat × Int)) (r : List AV)  : ev 73 24 [a0, aQ l1, a2, a3, a4, a5] (r) σ = ev 73 25 [a0, aQ l1, a2, a3, a4, a5] (aQ l1 :: r) σ := ev_go f_Lg_note_24 rfl
theorem f_Lg_note_25 : fetch 73 25 = some (.getfield 34) := by decide +kernel
theorem e_Lg_note_25 (a0 a1 a2 a3 a4 a5 : AV) (σ : aM) (i : Int) (r : List AV)  : ev 73 25 [a0, a1, a2, a3, a4, a5] (aR 8 i :: r) σ = ev 73 28 [a0, a1, a2, a3, a4, a5] (aI (gI σ 8 i 0) :: r) σ := ev_go f_Lg_note_25 rfl
theorem f_Lg_note_28 : fetch 73 28 = some (.iastore) := by decide +kernel
theorem e_Lg_note_28 (a0 a1 a2 a3 a4 a5 : AV) (σ : aM) (x : Int) (i : Int) (v : Int) (r : List AV) (h : 0 ≤ x ∧ x < 800) : ev 73 28 [a0, a1, a2, a3, a4, a5] (aI v :: aI x :: aR 10 i :: r) σ = ev 73 29 [a0, a1, a2, a3, a4, a5] (r) (uI σ 10 i x v) := ev_st f_Lg_note_28 rfl rfl (by decide) (by decide) rfl h
theorem f_Lg_note_29 : fetch 73 29 = some (.aload_n 0) := by decide +kernel
theorem e_Lg_note_29 (a1 a2 a3 a4 a5 : AV) (σ : aM) (l0 : Option (Nat × Int)) (r : List AV)  : ev 73 29 [aQ l0, a1, a2, a3, a4, a5] (r) σ = ev 73 30 [aQ l0, a1, a2, a3, a4, a5] (aQ l0 :: r) σ := ev_go f_Lg_note_29 rfl
theorem f_Lg_note_30 : fetch 73 30 = some (.getfield 9) := by decide +kernel
theorem e_Lg_note_30 (a0 a1 a2 a3 a4 a5 : AV) (σ : aM) (i : Int) (r : List AV)  : ev 73 30 [a0, a1, a2, a3, a4, a5] (aR 9 i :: r) σ = ev 73 33 [a0, a1, a2, a3, a4, a5] (aR 10 i :: r) σ := ev_go f_Lg_note_30 rfl
theorem f_Lg_note_33 : fetch 73 33 = some (.iload 5) := by decide +kernel
theorem e_Lg_note_33 (a0 a1 a2 a3 a4 : AV) (σ : aM) (l5 : Int) (r : List AV)  : ev 73 33 [a0, a1, a2, a3, a4, aI l5] (r) σ = ev 73 35 [a0, a1, a2, a3, a4, aI l5] (aI l5 :: r) σ := ev_go f_Lg_note_33 rfl
theorem f_Lg_note_35 : fetch 73 35 = some (.iconst 1) := by decide +kernel
theorem e_Lg_note_35 (a0 a1 a2 a3 a4 a5 : AV) (σ : aM) (r : List AV)  : ev 73 35 [a0, a1, a2, a3, a4, a5] (r) σ = ev 73 36 [a0, a1, a2, a3, a4, a5] (aI 1 :: r) σ := ev_go f_Lg_note_35 rfl
theorem f_Lg_note_36 : fetch 73 36 = some (.iadd) := by decide +kernel
theorem e_Lg_note_36 (a0 a1 a2 a3 a4 a5 : AV) (σ : aM) (x z : Int) (r : List AV)  : ev 73 36 [a0, a1, a2, a3, a4, a5] (aI z :: aI x :: r) σ = ev 73 37 [a0, a1, a2, a3, a4, a5] (aI (wr (x + z)) :: r) σ := ev_go f_Lg_note_36 rfl
theorem f_Lg_note_37 : fetch 73 37 = some (.aload_n 2) := by decide +kernel
theorem e_Lg_note_37 (a0 a1 a3 a4 a5 : AV) (σ : aM) (l2 : Option (Nat × Int)) (r : List AV)  : ev 73 37 [a0, a1, aQ l2, a3, a4, a5] (r) σ = ev 73 38 [a0, a1, aQ l2, a3, a4, a5] (aQ l2 :: r) σ := ev_go f_Lg_note_37 rfl
theorem f_Lg_note_38 : fetch 73 38 = some (.getfield 34) := by decide +kernel
theorem e_Lg_note_38 (a0 a1 a2 a3 a4 a5 : AV) (σ : aM) (i : Int) (r : List AV)  : ev 73 38 [a0, a1, a2, a3, a4, a5] (aR 8 i :: r) σ = ev 73 41 [a0, a1, a2, a3, a4, a5] (aI (gI σ 8 i 0) :: r) σ := ev_go f_Lg_note_38 rfl
theorem f_Lg_note_41 : fetch 73 41 = some (.iastore) := by decide +kernel
theorem e_Lg_note_41 (a0 a1 a2 a3 a4 a5 : AV) (σ : aM) (x : Int) (i : Int) (v : Int) (r : List AV) (h : 0 ≤ x ∧ x < 800) : ev 73 41 [a0, a1, a2, a3, a4, a5] (aI v :: aI x :: aR 10 i :: r) σ = ev 73 42 [a0, a1, a2, a3, a4, a5] (r) (uI σ 10 i x v) := ev_st f_Lg_note_41 rfl rfl (by decide) (by decide) rfl h
theorem f_Lg_note_42 : fetch 73 42 = some (.aload_n 0) := by decide +kernel
theorem e_Lg_note_42 (a1 a2 a3 a4 a5 : AV) (σ : aM) (l0 : Option (Nat × Int)) (r : List AV)  : ev 73 42 [aQ l0, a1, a2, a3, a4, a5] (r) σ = ev 73 43 [aQ l0, a1, a2, a3, a4, a5] (aQ l0 :: r) σ := ev_go f_Lg_note_42 rfl
theorem f_Lg_note_43 : fetch 73 43 = some (.getfield 9) := by decide +kernel
theorem e_Lg_note_43 (a0 a1 a2 a3 a4 a5 : AV) (σ : aM) (i : Int) (r : List AV)  : ev 73 43 [a0, a1, a2, a3, a4, a5] (aR 9 i :: r) σ = ev 73 46 [a0, a1, a2, a3, a4, a5] (aR 10 i :: r) σ := ev_go f_Lg_note_43 rfl
theorem f_Lg_note_46 : fetch 73 46 = some (.iload 5) := by decide +kernel
theorem e_Lg_note_46 (a0 a1 a2 a3 a4 : AV) (σ : aM) (l5 : Int) (r : List AV)  : ev 73 46 [a0, a1, a2, a3, a4, aI l5] (r) σ = ev 73 48 [a0, a1, a2, a3, a4, aI l5] (aI l5 :: r) σ := ev_go f_Lg_note_46 rfl
theorem f_Lg_note_48 : fetch 73 48 = some (.iconst 2) := by decide +kernel
theorem e_Lg_note_48 (a0 a1 a2 a3 a4 a5 : AV) (σ : aM) (r : List AV)  : ev 73 48 [a0, a1, a2, a3, a4, a5] (r) σ = ev 73 49 [a0, a1, a2, a3, a4, a5] (aI 2 :: r) σ := ev_go f_Lg_note_48 rfl
theorem f_Lg_note_49 : fetch 73 49 = some (.iadd) := by decide +kernel
theorem e_Lg_note_49 (a0 a1 a2 a3 a4 a5 : AV) (σ : aM) (x z : Int) (r : List AV)  : ev 73 49 [a0, a1, a2, a3, a4, a5] (aI z :: aI x :: r) σ = ev 73 50 [a0, a1, a2, a3, a4, a5] (aI (wr (x + z)) :: r) σ := ev_go f_Lg_note_49 rfl
theorem f_Lg_note_50 : fetch 73 50 = some (.iload_n 3) := by decide +kernel
theorem e_Lg_note_50 (a0 a1 a2 a4 a5 : AV) (σ : aM) (l3 : Int) (r : List AV)  : ev 73 50 [a0, a1, a2, aI l3, a4, a5] (r) σ = ev 73 51 [a0, a1, a2, aI l3, a4, a5] (aI l3 :: r) σ := ev_go f_Lg_note_50 rfl
theorem f_Lg_note_51 : fetch 73 51 = some (.iastore) := by decide +kernel
theorem e_Lg_note_51 (a0 a1 a2 a3 a4 a5 : AV) (σ : aM) (x : Int) (i : Int) (v : Int) (r : List AV) (h : 0 ≤ x ∧ x < 800) : ev 73 51 [a0, a1, a2, a3, a4, a5] (aI v :: aI x :: aR 10 i :: r) σ = ev 73 52 [a0, a1, a2, a3, a4, a5] (r) (uI σ 10 i x v) := ev_st f_Lg_note_51 rfl rfl (by decide) (by decide) rfl h
theorem f_Lg_note_52 : fetch 73 52 = some (.aload_n 0) := by decide +kernel
theorem e_Lg_note_52 (a1 a2 a3 a4 a5 : AV) (σ : aM) (l0 : Option (Nat × Int)) (r : List AV)  : ev 73 52 [aQ l0, a1, a2, a3, a4, a5] (r) σ = ev 73 53 [aQ l0, a1, a2, a3, a4, a5] (aQ l0 :: r) σ := ev_go f_Lg_note_52 rfl
theorem f_Lg_note_53 : fetch 73 53 = some (.getfield 9) := by decide +kernel
theorem e_Lg_note_53 (a0 a1 a2 a3 a4 a5 : AV) (σ : aM) (i : Int) (r : List AV)  : ev 73 53 [a0, a1, a2, a3, a4, a5] (aR 9 i :: r) σ = ev 73 56 [a0, a1, a2, a3, a4, a5] (aR 10 i :: r) σ := ev_go f_Lg_note_53 rfl
theorem f_Lg_note_56 : fetch 73 56 = some (.iload 5) := by decide +kernel
theorem e_Lg_note_56 (a0 a1 a2 a3 a4 : AV) (σ : aM) (l5 : Int) (r : List AV)  : ev 73 56 [a0, a1, a2, a3, a4, aI l5] (r) σ = ev 73 58 [a0, a1, a2, a3, a4, aI l5] (aI l5 :: r) σ := ev_go f_Lg_note_56 rfl
theorem f_Lg_note_58 : fetch 73 58 = some (.iconst 3) := by decide +kernel
theorem e_Lg_note_58 (a0 a1 a2 a3 a4 a5 : AV) (σ : aM) (r : List AV)  : ev 73 58 [a0, a1, a2, a3, a4, a5] (r) σ = ev 73 59 [a0, a1, a2, a3, a4, a5] (aI 3 :: r) σ := ev_go f_Lg_note_58 rfl
theorem f_Lg_note_59 : fetch 73 59 = some (.iadd) := by decide +kernel
theorem e_Lg_note_59 (a0 a1 a2 a3 a4 a5 : AV) (σ : aM) (x z : Int) (r : List AV)  : ev 73 59 [a0, a1, a2, a3, a4, a5] (aI z :: aI x :: r) σ = ev 73 60 [a0, a1, a2, a3, a4, a5] (aI (wr (x + z)) :: r) σ := ev_go f_Lg_note_59 rfl
theorem f_Lg_note_60 : fetch 73 60 = some (.iload 4) := by decide +kernel
theorem e_Lg_note_60 (a0 a1 a2 a3 a5 : AV) (σ : aM) (l4 : Int) (r : List AV)  : ev 73 60 [a0, a1, a2, a3, aI l4, a5] (r) σ = ev 73 62 [a0, a1, a2, a3, aI l4, a5] (aI l4 :: r) σ := ev_go f_Lg_note_60 rfl
theorem f_Lg_note_62 : fetch 73 62 = some (.iastore) := by decide +kernel
theorem e_Lg_note_62 (a0 a1 a2 a3 a4 a5 : AV) (σ : aM) (x : Int) (i : Int) (v : Int) (r : List AV) (h : 0 ≤ x ∧ x < 800) : ev 73 62 [a0, a1, a2, a3, a4, a5] (aI v :: aI x :: aR 10 i :: r) σ = ev 73 63 [a0, a1, a2, a3, a4, a5] (r) (uI σ 10 i x v) := ev_st f_Lg_note_62 rfl rfl (by decide) (by decide) rfl h
theorem f_Lg_note_63 : fetch 73 63 = some (.aload_n 0) := by decide +kernel
theorem e_Lg_note_63 (a1 a2 a3 a4 a5 : AV) (σ : aM) (l0 : Option (Nat × Int)) (r : List AV)  : ev 73 63 [aQ l0, a1, a2, a3, a4, a5] (r) σ = ev 73 64 [aQ l0, a1, a2, a3, a4, a5] (aQ l0 :: r) σ := ev_go f_Lg_note_63 rfl
theorem f_Lg_note_64 : fetch 73 64 = some (.dup) := by decide +kernel
theorem e_Lg_note_64 (a0 a1 a2 a3 a4 a5 : AV) (σ : aM) (x : Option (Nat × Int)) (r : List AV)  : ev 73 64 [a0, a1, a2, a3, a4, a5] (aQ x :: r) σ = ev 73 65 [a0, a1, a2, a3, a4, a5] (aQ x :: aQ x :: r) σ := ev_go f_Lg_note_64 rfl
theorem f_Lg_note_65 : fetch 73 65 = some (.getfield 21) := by decide +kernel
theorem e_Lg_note_65 (a0 a1 a2 a3 a4 a5 : AV) (σ : aM) (i : Int) (r : List AV)  : ev 73 65 [a0, a1, a2, a3, a4, a5] (aR 9 i :: r) σ = ev 73 68 [a0, a1, a2, a3, a4, a5] (aI (gI σ 9 i 3) :: r) σ := ev_go f_Lg_note_65 rfl
theorem f_Lg_note_68 : fetch 73 68 = some (.iconst 1) := by decide +kernel
theorem e_Lg_note_68 (a0 a1 a2 a3 a4 a5 : AV) (σ : aM) (r : List AV)  : ev 73 68 [a0, a1, a2, a3, a4, a5] (r) σ = ev 73 69 [a0, a1, a2, a3, a4, a5] (aI 1 :: r) σ := ev_go f_Lg_note_68 rfl
theorem f_Lg_note_69 : fetch 73 69 = some (.iadd) := by decide +kernel
theorem e_Lg_note_69 (a0 a1 a2 a3 a4 a5 : AV) (σ : aM) (x z : Int) (r : List AV)  : ev 73 69 [a0, a1, a2, a3, a4, a5] (aI z :: aI x :: r) σ = ev 73 70 [a0, a1, a2, a3, a4, a5] (aI (wr (x + z)) :: r) σ := ev_go f_Lg_note_69 rfl
theorem f_Lg_note_70 : fetch 73 70 = some (.putfield 21) := by decide +kernel
theorem e_Lg_note_70 (a0 a1 a2 a3 a4 a5 : AV) (σ : aM) (i : Int) (x : Int) (r : List AV)  : ev 73 70 [a0, a1, a2, a3, a4, a5] (aI x :: aR 9 i :: r) σ = ev 73 73 [a0, a1, a2, a3, a4, a5] (r) (uI σ 9 i 3 x) := ev_go f_Lg_note_70 rfl
theorem f_Lg_note_73 : fetch 73 73 = some (.aload_n 0) := by decide +kernel
theorem e_Lg_note_73 (a1 a2 a3 a4 a5 : AV) (σ : aM) (l0 : Option (Nat × Int)) (r : List AV)  : ev 73 73 [aQ l0, a1, a2, a3, a4, a5] (r) σ = ev 73 74 [aQ l0, a1, a2, a3, a4, a5] (aQ l0 :: r) σ := ev_go f_Lg_note_73 rfl
theorem f_Lg_note_74 : fetch 73 74 = some (.iload_n 3) := by decide +kernel
theorem e_Lg_note_74 (a0 a1 a2 a4 a5 : AV) (σ : aM) (l3 : Int) (r : List AV)  : ev 73 74 [a0, a1, a2, aI l3, a4, a5] (r) σ = ev 73 75 [a0, a1, a2, aI l3, a4, a5] (aI l3 :: r) σ := ev_go f_Lg_note_74 rfl
theorem f_Lg_note_75 : fetch 73 75 = some (.putfield 25) := by decide +kernel
theorem e_Lg_note_75 (a0 a1 a2 a3 a4 a5 : AV) (σ : aM) (i : Int) (x : Int) (r : List AV)  : ev 73 75 [a0, a1, a2, a3, a4, a5] (aI x :: aR 9 i :: r) σ = ev 73 78 [a0, a1, a2, a3, a4, a5] (r) (uI σ 9 i 4 x) := ev_go f_Lg_note_75 rfl
theorem f_Lg_note_78 : fetch 73 78 = some (.aload_n 0) := by decide +kernel
theorem e_Lg_note_78 (a1 a2 a3 a4 a5 : AV) (σ : aM) (l0 : Option (Nat × Int)) (r : List AV)  : ev 73 78 [aQ l0, a1, a2, a3, a4, a5] (r) σ = ev 73 79 [aQ l0, a1, a2, a3, a4, a5] (aQ l0 :: r) σ := ev_go f_Lg_note_78 rfl
theorem f_Lg_note_79 : fetch 73 79 = some (.getfield 15) := by decide +kernel
theorem e_Lg_note_79 (a0 a1 a2 a3 a4 a5 : AV) (σ : aM) (i : Int) (r : List AV)  : ev 73 79 [a0, a1, a2, a3, a4, a5] (aR 9 i :: r) σ = ev 73 82 [a0, a1, a2, a3, a4, a5] (aR 11 i :: r) σ := ev_go f_Lg_note_79 rfl
theorem f_Lg_note_82 : fetch 73 82 = some (.aload_n 1) := by decide +kernel
theorem e_Lg_note_82 (a0 a2 a3 a4 a5 : AV) (σ : aM) (l1 : Option (Nat × Int)) (r : List AV)  : ev 73 82 [a0, aQ l1, a2, a3, a4, a5] (r) σ = ev 73 83 [a0, aQ l1, a2, a3, a4, a5] (aQ l1 :: r) σ := ev_go f_Lg_note_82 rfl
theorem f_Lg_note_83 : fetch 73 83 = some (.getfield 39) := by decide +kernel
theorem e_Lg_note_83 (a0 a1 a2 a3 a4 a5 : AV) (σ : aM) (i : Int) (r : List AV)  : ev 73 83 [a0, a1, a2, a3, a4, a5] (aR 8 i :: r) σ = ev 73 86 [a0, a1, a2, a3, a4, a5] (aI (gI σ 8 i 2) :: r) σ := ev_go f_Lg_note_83 rfl
theorem f_Lg_note_86 : fetch 73 86 = some (.dup2) := by decide +kernel
theorem e_Lg_note_86 (a0 a1 a2 a3 a4 a5 : AV) (σ : aM) (x : Int) (z : Option (Nat × Int)) (r : List AV)  : ev 73 86 [a0, a1, a2, a3, a4, a5] (aI x :: aQ z :: r) σ = ev 73 87 [a0, a1, a2, a3, a4, a5] (aI x :: aQ z :: aI x :: aQ z :: r) σ := ev_go f_Lg_note_86 rfl
theorem f_Lg_note_87 : fetch 73 87 = some (.iaload) := by decide +kernel
theorem e_Lg_note_87 (a0 a1 a2 a3 a4 a5 : AV) (σ : aM) (x : Int) (i : Int) (r : List AV) (h : 0 ≤ x ∧ x < 8) : ev 73 87 [a0, a1, a2, a3, a4, a5] (aI x :: aR 11 i :: r) σ = ev 73 88 [a0, a1, a2, a3, a4, a5] (aI (gI σ 11 i x) :: r) σ := ev_ld (j := i) f_Lg_note_87 rfl rfl (by decide) rfl h
theorem f_Lg_note_88 : fetch 73 88 = some (.iload 4) := by decide +kernel
theorem e_Lg_note_88 (a0 a1 a2 a3 a5 : AV) (σ : aM) (l4 : Int) (r : List AV)  : ev 73 88 [a0, a1, a2, a3, aI l4, a5] (r) σ = ev 73 90 [a0, a1, a2, a3, aI l4, a5] (aI l4 :: r) σ := ev_go f_Lg_note_88 rfl
theorem f_Lg_note_90 : fetch 73 90 = some (.iadd) := by decide +kernel
theorem e_Lg_note_90 (a0 a1 a2 a3 a4 a5 : AV) (σ : aM) (x z : Int) (r : List AV)  : ev 73 90 [a0, a1, a2, a3, a4, a5] (aI z :: aI x :: r) σ = ev 73 91 [a0, a1, a2, a3, a4, a5] (aI (wr (x + z)) :: r) σ := ev_go f_Lg_note_90 rfl
theorem f_Lg_note_91 : fetch 73 91 = some (.iastore) := by decide +kernel
theorem e_Lg_note_91 (a0 a1 a2 a3 a4 a5 : AV) (σ : aM) (x : Int) (i : Int) (v : Int) (r : List AV) (h : 0 ≤ x ∧ x < 8) : ev 73 91 [a0, a1, a2, a3, a4, a5] (aI v :: aI x :: aR 11 i :: r) σ = ev 73 92 [a0, a1, a2, a3, a4, a5] (r) (uI σ 11 i x v) := ev_st f_Lg_note_91 rfl rfl (by decide) (by decide) rfl h
theorem f_Lg_note_92 : fetch 73 92 = some (.aload_n 0) := by decide +kernel
theorem e_Lg_note_92 (a1 a2 a3 a4 a5 : AV) (σ : aM) (l0 : Option (Nat × Int)) (r : List AV)  : ev 73 92 [aQ l0, a1, a2, a3, a4, a5] (r) σ = ev 73 93 [aQ l0, a1, a2, a3, a4, a5] (aQ l0 :: r) σ := ev_go f_Lg_note_92 rfl
theorem f_Lg_note_93 : fetch 73 93 = some (.getfield 18) := by decide +kernel
theorem e_Lg_note_93 (a0 a1 a2 a3 a4 a5 : AV) (σ : aM) (i : Int) (r : List AV)  : ev 73 93 [a0, a1, a2, a3, a4, a5] (aR 9 i :: r) σ = ev 73 96 [a0, a1, a2, a3, a4, a5] (aR 12 i :: r) σ := ev_go f_Lg_note_93 rfl
theorem f_Lg_note_96 : fetch 73 96 = some (.aload_n 1) := by decide +kernel
theorem e_Lg_note_96 (a0 a2 a3 a4 a5 : AV) (σ : aM) (l1 : Option (Nat × Int)) (r : List AV)  : ev 73 96 [a0, aQ l1, a2, a3, a4, a5] (r) σ = ev 73 97 [a0, aQ l1, a2, a3, a4, a5] (aQ l1 :: r) σ := ev_go f_Lg_note_96 rfl
theorem f_Lg_note_97 : fetch 73 97 = some (.getfield 39) := by decide +kernel
theorem e_Lg_note_97 (a0 a1 a2 a3 a4 a5 : AV) (σ : aM) (i : Int) (r : List AV)  : ev 73 97 [a0, a1, a2, a3, a4, a5] (aR 8 i :: r) σ = ev 73 100 [a0, a1, a2, a3, a4, a5] (aI (gI σ 8 i 2) :: r) σ := ev_go f_Lg_note_97 rfl
theorem f_Lg_note_100 : fetch 73 100 = some (.dup2) := by decide +kernel
theorem e_Lg_note_100 (a0 a1 a2 a3 a4 a5 : AV) (σ : aM) (x : Int) (z : Option (Nat × Int)) (r : List AV)  : ev 73 100 [a0, a1, a2, a3, a4, a5] (aI x :: aQ z :: r) σ = ev 73 101 [a0, a1, a2, a3, a4, a5] (aI x :: aQ z :: aI x :: aQ z :: r) σ := ev_go f_Lg_note_100 rfl
theorem f_Lg_note_101 : fetch 73 101 = some (.iaload) := by decide +kernel
theorem e_Lg_note_101 (a0 a1 a2 a3 a4 a5 : AV) (σ : aM) (x : Int) (i : Int) (r : List AV) (h : 0 ≤ x ∧ x < 8) : ev 73 101 [a0, a1, a2, a3, a4, a5] (aI x :: aR 12 i :: r) σ = ev 73 102 [a0, a1, a2, a3, a4, a5] (aI (gI σ 12 i x) :: r) σ := ev_ld (j := i) f_Lg_note_101 rfl rfl (by decide) rfl h
theorem f_Lg_note_102 : fetch 73 102 = some (.iload_n 3) := by decide +kernel
theorem e_Lg_note_102 (a0 a1 a2 a4 a5 : AV) (σ : aM) (l3 : Int) (r : List AV)  : ev 73 102 [a0, a1, a2, aI l3, a4, a5] (r) σ = ev 73 103 [a0, a1, a2, aI l3, a4, a5] (aI l3 :: r) σ := ev_go f_Lg_note_102 rfl
theorem f_Lg_note_103 : fetch 73 103 = some (.iload 4) := by decide +kernel
theorem e_Lg_note_103 (a0 a1 a2 a3 a5 : AV) (σ : aM) (l4 : Int) (r : List AV)  : ev 73 103 [a0, a1, a2, a3, aI l4, a5] (r) σ = ev 73 105 [a0, a1, a2, a3, aI l4, a5] (aI l4 :: r) σ := ev_go f_Lg_note_103 rfl
theorem f_Lg_note_105 : fetch 73 105 = some (.imul) := by decide +kernel
theorem e_Lg_note_105 (a0 a1 a2 a3 a4 a5 : AV) (σ : aM) (x z : Int) (r : List AV)  : ev 73 105 [a0, a1, a2, a3, a4, a5] (aI z :: aI x :: r) σ = ev 73 106 [a0, a1, a2, a3, a4, a5] (aI (wr (x * z)) :: r) σ := ev_go f_Lg_note_105 rfl
theorem f_Lg_note_106 : fetch 73 106 = some (.isub) := by decide +kernel
theorem e_Lg_note_106 (a0 a1 a2 a3 a4 a5 : AV) (σ : aM) (x z : Int) (r : List AV)  : ev 73 106 [a0, a1, a2, a3, a4, a5] (aI z :: aI x :: r) σ = ev 73 107 [a0, a1, a2, a3, a4, a5] (aI (wr (x - z)) :: r) σ := ev_go f_Lg_note_106 rfl
theorem f_Lg_note_107 : fetch 73 107 = some (.iastore) := by decide +kernel
theorem e_Lg_note_107 (a0 a1 a2 a3 a4 a5 : AV) (σ : aM) (x : Int) (i : Int) (v : Int) (r : List AV) (h : 0 ≤ x ∧ x < 8) : ev 73 107 [a0, a1, a2, a3, a4, a5] (aI v :: aI x :: aR 12 i :: r) σ = ev 73 108 [a0, a1, a2, a3, a4, a5] (r) (uI σ 12 i x v) := ev_st f_Lg_note_107 rfl rfl (by decide) (by decide) rfl h
theorem f_Lg_note_108 : fetch 73 108 = some (.aload_n 0) := by decide +kernel
theorem e_Lg_note_108 (a1 a2 a3 a4 a5 : AV) (σ : aM) (l0 : Option (Nat × Int)) (r : List AV)  : ev 73 108 [aQ l0, a1, a2, a3, a4, a5] (r) σ = ev 73 109 [aQ l0, a1, a2, a3, a4, a5] (aQ l0 :: r) σ := ev_go f_Lg_note_108 rfl
theorem f_Lg_note_109 : fetch 73 109 = some (.getfield 15) := by decide +kernel
theorem e_Lg_note_109 (a0 a1 a2 a3 a4 a5 : AV) (σ : aM) (i : Int) (r : List AV)  : ev 73 109 [a0, a1, a2, a3, a4, a5] (aR 9 i :: r) σ = ev 73 112 [a0, a1, a2, a3, a4, a5] (aR 11 i :: r) σ := ev_go f_Lg_note_109 rfl
theorem f_Lg_note_112 : fetch 73 112 = some (.aload_n 2) := by decide +kernel
theorem e_Lg_note_112 (a0 a1 a3 a4 a5 : AV) (σ : aM) (l2 : Option (Nat × Int)) (r : List AV)  : ev 73 112 [a0, a1, aQ l2, a3, a4, a5] (r) σ = ev 73 113 [a0, a1, aQ l2, a3, a4, a5] (aQ l2 :: r) σ := ev_go f_Lg_note_112 rfl
theorem f_Lg_note_113 : fetch 73 113 = some (.getfield 39) := by decide +kernel
theorem e_Lg_note_113 (a0 a1 a2 a3 a4 a5 : AV) (σ : aM) (i : Int) (r : List AV)  : ev 73 113 [a0, a1, a2, a3, a4, a5] (aR 8 i :: r) σ = ev 73 116 [a0, a1, a2, a3, a4, a5] (aI (gI σ 8 i 2) :: r) σ := ev_go f_Lg_note_113 rfl
theorem f_Lg_note_116 : fetch 73 116 = some (.dup2) := by decide +kernel
theorem e_Lg_note_116 (a0 a1 a2 a3 a4 a5 : AV) (σ : aM) (x : Int) (z : Option (Nat × Int)) (r : List AV)  : ev 73 116 [a0, a1, a2, a3, a4, a5] (aI x :: aQ z :: r) σ = ev 73 117 [a0, a1, a2, a3, a4, a5] (aI x :: aQ z :: aI x :: aQ z :: r) σ := ev_go f_Lg_note_116 rfl
theorem f_Lg_note_117 : fetch 73 117 = some (.iaload) := by decide +kernel
theorem e_Lg_note_117 (a0 a1 a2 a3 a4 a5 : AV) (σ : aM) (x : Int) (i : Int) (r : List AV) (h : 0 ≤ x ∧ x < 8) : ev 73 117 [a0, a1, a2, a3, a4, a5] (aI x :: aR 11 i :: r) σ = ev 73 118 [a0, a1, a2, a3, a4, a5] (aI (gI σ 11 i x) :: r) σ := ev_ld (j := i) f_Lg_note_117 rfl rfl (by decide) rfl h
theorem f_Lg_note_118 : fetch 73 118 = some (.iload 4) := by decide +kernel
theorem e_Lg_note_118 (a0 a1 a2 a3 a5 : AV) (σ : aM) (l4 : Int) (r : List AV)  : ev 73 118 [a0, a1, a2, a3, aI l4, a5] (r) σ = ev 73 120 [a0, a1, a2, a3, aI l4, a5] (aI l4 :: r) σ := ev_go f_Lg_note_118 rfl
theorem f_Lg_note_120 : fetch 73 120 = some (.isub) := by decide +kernel
theorem e_Lg_note_120 (a0 a1 a2 a3 a4 a5 : AV) (σ : aM) (x z : Int) (r : List AV)  : ev 73 120 [a0, a1, a2, a3, a4, a5] (aI z :: aI x :: r) σ = ev 73 121 [a0, a1, a2, a3, a4, a5] (aI (wr (x - z)) :: r) σ := ev_go f_Lg_note_120 rfl
theorem f_Lg_note_121 : fetch 73 121 = some (.iastore) := by decide +kernel
theorem e_Lg_note_121 (a0 a1 a2 a3 a4 a5 : AV) (σ : aM) (x : Int) (i : Int) (v : Int) (r : List AV) (h : 0 ≤ x ∧ x < 8) : ev 73 121 [a0, a1, a2, a3, a4, a5] (aI v :: aI x :: aR 11 i :: r) σ = ev 73 122 [a0, a1, a2, a3, a4, a5] (r) (uI σ 11 i x v) := ev_st f_Lg_note_121 rfl rfl (by decide) (by decide) rfl h
theorem f_Lg_note_122 : fetch 73 122 = some (.aload_n 0) := by decide +kernel
theorem e_Lg_note_122 (a1 a2 a3 a4 a5 : AV) (σ : aM) (l0 : Option (Nat × Int)) (r : List AV)  : ev 73 122 [aQ l0, a1, a2, a3, a4, a5] (r) σ = ev 73 123 [aQ l0, a1, a2, a3, a4, a5] (aQ l0 :: r) σ := ev_go f_Lg_note_122 rfl
theorem f_Lg_note_123 : fetch 73 123 = some (.getfield 18) := by decide +kernel
theorem e_Lg_note_123 (a0 a1 a2 a3 a4 a5 : AV) (σ : aM) (i : Int) (r : List AV)  : ev 73 123 [a0, a1, a2, a3, a4, a5] (aR 9 i :: r) σ = ev 73 126 [a0, a1, a2, a3, a4, a5] (aR 12 i :: r) σ := ev_go f_Lg_note_123 rfl
theorem f_Lg_note_126 : fetch 73 126 = some (.aload_n 2) := by decide +kernel
theorem e_Lg_note_126 (a0 a1 a3 a4 a5 : AV) (σ : aM) (l2 : Option (Nat × Int)) (r : List AV)  : ev 73 126 [a0, a1, aQ l2, a3, a4, a5] (r) σ = ev 73 127 [a0, a1, aQ l2, a3, a4, a5] (aQ l2 :: r) σ := ev_go f_Lg_note_126 rfl
theorem f_Lg_note_127 : fetch 73 127 = some (.getfield 39) := by decide +kernel
theorem e_Lg_note_127 (a0 a1 a2 a3 a4 a5 : AV) (σ : aM) (i : Int) (r : List AV)  : ev 73 127 [a0, a1, a2, a3, a4, a5] (aR 8 i :: r) σ = ev 73 130 [a0, a1, a2, a3, a4, a5] (aI (gI σ 8 i 2) :: r) σ := ev_go f_Lg_note_127 rfl
theorem f_Lg_note_130 : fetch 73 130 = some (.dup2) := by decide +kernel
theorem e_Lg_note_130 (a0 a1 a2 a3 a4 a5 : AV) (σ : aM) (x : Int) (z : Option (Nat × Int)) (r : List AV)  : ev 73 130 [a0, a1, a2, a3, a4, a5] (aI x :: aQ z :: r) σ = ev 73 131 [a0, a1, a2, a3, a4, a5] (aI x :: aQ z :: aI x :: aQ z :: r) σ := ev_go f_Lg_note_130 rfl
theorem f_Lg_note_131 : fetch 73 131 = some (.iaload) := by decide +kernel
theorem e_Lg_note_131 (a0 a1 a2 a3 a4 a5 : AV) (σ : aM) (x : Int) (i : Int) (r : List AV) (h : 0 ≤ x ∧ x < 8) : ev 73 131 [a0, a1, a2, a3, a4, a5] (aI x :: aR 12 i :: r) σ = ev 73 132 [a0, a1, a2, a3, a4, a5] (aI (gI σ 12 i x) :: r) σ := ev_ld (j := i) f_Lg_note_131 rfl rfl (by decide) rfl h
theorem f_Lg_note_132 : fetch 73 132 = some (.iload_n 3) := by decide +kernel
theorem e_Lg_note_132 (a0 a1 a2 a4 a5 : AV) (σ : aM) (l3 : Int) (r : List AV)  : ev 73 132 [a0, a1, a2, aI l3, a4, a5] (r) σ = ev 73 133 [a0, a1, a2, aI l3, a4, a5] (aI l3 :: r) σ := ev_go f_Lg_note_132 rfl
theorem f_Lg_note_133 : fetch 73 133 = some (.iload 4) := by decide +kernel
theorem e_Lg_note_133 (a0 a1 a2 a3 a5 : AV) (σ : aM) (l4 : Int) (r : List AV)  : ev 73 133 [a0, a1, a2, a3, aI l4, a5] (r) σ = ev 73 135 [a0, a1, a2, a3, aI l4, a5] (aI l4 :: r) σ := ev_go f_Lg_note_133 rfl
theorem f_Lg_note_135 : fetch 73 135 = some (.imul) := by decide +kernel
theorem e_Lg_note_135 (a0 a1 a2 a3 a4 a5 : AV) (σ : aM) (x z : Int) (r : List AV)  : ev 73 135 [a0, a1, a2, a3, a4, a5] (aI z :: aI x :: r) σ = ev 73 136 [a0, a1, a2, a3, a4, a5] (aI (wr (x * z)) :: r) σ := ev_go f_Lg_note_135 rfl
theorem f_Lg_note_136 : fetch 73 136 = some (.iadd) := by decide +kernel
theorem e_Lg_note_136 (a0 a1 a2 a3 a4 a5 : AV) (σ : aM) (x z : Int) (r : List AV)  : ev 73 136 [a0, a1, a2, a3, a4, a5] (aI z :: aI x :: r) σ = ev 73 137 [a0, a1, a2, a3, a4, a5] (aI (wr (x + z)) :: r) σ := ev_go f_Lg_note_136 rfl
theorem f_Lg_note_137 : fetch 73 137 = some (.iastore) := by decide +kernel
theorem e_Lg_note_137 (a0 a1 a2 a3 a4 a5 : AV) (σ : aM) (x : Int) (i : Int) (v : Int) (r : List AV) (h : 0 ≤ x ∧ x < 8) : ev 73 137 [a0, a1, a2, a3, a4, a5] (aI v :: aI x :: aR 12 i :: r) σ = ev 73 138 [a0, a1, a2, a3, a4, a5] (r) (uI σ 12 i x v) := ev_st f_Lg_note_137 rfl rfl (by decide) (by decide) rfl h
theorem f_Lg_note_138 : fetch 73 138 = some (.return_) := by decide +kernel
theorem e_Lg_note_138 (a0 a1 a2 a3 a4 a5 : AV) (σ : aM)  : ev 73 138 [a0, a1, a2, a3, a4, a5] [] σ = some (none, σ) := ev_ret f_Lg_note_138 rfl
theorem f_Lg_keeps_0 : fetch 74 0 = some (.iload_n 1) := by decide +kernel
theorem e_Lg_keeps_0 (a0 : AV) (σ : aM) (l1 : Int) (r : List AV)  : ev 74 0 [a0, aI l1] (r) σ = ev 74 1 [a0, aI l1] (aI l1 :: r) σ := ev_go f_Lg_keeps_0 rfl
theorem f_Lg_keeps_1 : fetch 74 1 = some (.ifCond .lt 22) := by decide +kernel
theorem e_Lg_keeps_1 (a0 a1 : AV) (σ : aM) (x : Int) (r : List AV) : ev 74 1 [a0, a1] (aI x :: r) σ = if x < 0 then ev 74 23 [a0, a1] r σ else ev 74 4 [a0, a1] r σ := ev_br f_Lg_keeps_1 rfl bc_lt
theorem f_Lg_keeps_4 : fetch 74 4 = some (.iload_n 1) := by decide +kernel
theorem e_Lg_keeps_4 (a0 : AV) (σ : aM) (l1 : Int) (r : List AV)  : ev 74 4 [a0, aI l1] (r) σ = ev 74 5 [a0, aI l1] (aI l1 :: r) σ := ev_go f_Lg_keeps_4 rfl
theorem f_Lg_keeps_5 : fetch 74 5 = some (.aload_n 0) := by decide +kernel
theorem e_Lg_keeps_5 (a1 : AV) (σ : aM) (l0 : Option (Nat × Int)) (r : List AV)  : ev 74 5 [aQ l0, a1] (r) σ = ev 74 6 [aQ l0, a1] (aQ l0 :: r) σ := ev_go f_Lg_keeps_5 rfl
theorem f_Lg_keeps_6 : fetch 74 6 = some (.getfield 21) := by decide +kernel
theorem e_Lg_keeps_6 (a0 a1 : AV) (σ : aM) (i : Int) (r : List AV)  : ev 74 6 [a0, a1] (aR 9 i :: r) σ = ev 74 9 [a0, a1] (aI (gI σ 9 i 3) :: r) σ := ev_go f_Lg_keeps_6 rfl
theorem f_Lg_keeps_9 : fetch 74 9 = some (.if_icmp .ge 14) := by decide +kernel
theorem e_Lg_keeps_9 (a0 a1 : AV) (σ : aM) (x z : Int) (r : List AV) : ev 74 9 [a0, a1] (aI z :: aI x :: r) σ = if z ≤ x then ev 74 23 [a0, a1] r σ else ev 74 12 [a0, a1] r σ := ev_br f_Lg_keeps_9 rfl bc_ge
theorem f_Lg_keeps_12 : fetch 74 12 = some (.iload_n 1) := by decide +kernel
theorem e_Lg_keeps_12 (a0 : AV) (σ : aM) (l1 : Int) (r : List AV)  : ev 74 12 [a0, aI l1] (r) σ = ev 74 13 [a0, aI l1] (aI l1 :: r) σ := ev_go f_Lg_keeps_12 rfl
theorem f_Lg_keeps_13 : fetch 74 13 = some (.sipush 200) := by decide +kernel
theorem e_Lg_keeps_13 (a0 a1 : AV) (σ : aM) (r : List AV)  : ev 74 13 [a0, a1] (r) σ = ev 74 16 [a0, a1] (aI 200 :: r) σ := ev_go f_Lg_keeps_13 rfl
theorem f_Lg_keeps_16 : fetch 74 16 = some (.if_icmp .ge 7) := by decide +kernel
theorem e_Lg_keeps_16 (a0 a1 : AV) (σ : aM) (x z : Int) (r : List AV) : ev 74 16 [a0, a1] (aI z :: aI x :: r) σ = if z ≤ x then ev 74 23 [a0, a1] r σ else ev 74 19 [a0, a1] r σ := ev_br f_Lg_keeps_16 rfl bc_ge
theorem f_Lg_keeps_19 : fetch 74 19 = some (.iconst 1) := by decide +kernel
theorem e_Lg_keeps_19 (a0 a1 : AV) (σ : aM) (r : List AV)  : ev 74 19 [a0, a1] (r) σ = ev 74 20 [a0, a1] (aI 1 :: r) σ := ev_go f_Lg_keeps_19 rfl
theorem f_Lg_keeps_20 : fetch 74 20 = some (.goto 4) := by decide +kernel
theorem e_Lg_keeps_20 (a0 a1 : AV) (σ : aM) (r : List AV)  : ev 74 20 [a0, a1] (r) σ = ev 74 24 [a0, a1] (r) σ := ev_go f_Lg_keeps_20 rfl
theorem f_Lg_keeps_23 : fetch 74 23 = some (.iconst 0) := by decide +kernel
theorem e_Lg_keeps_23 (a0 a1 : AV) (σ : aM) (r : List AV)  : ev 74 23 [a0, a1] (r) σ = ev 74 24 [a0, a1] (aI 0 :: r) σ := ev_go f_Lg_keeps_23 rfl
theorem f_Lg_keeps_24 : fetch 74 24 = some (.ireturn) := by decide +kernel
theorem e_Lg_keeps_24 (a0 a1 : AV) (σ : aM) (x : Int) (h : x = 0 ∨ x = 1) : ev 74 24 [a0, a1] [aI x] σ = some ((some (aI x)), σ) := ev_rB f_Lg_keeps_24 rfl h
theorem f_Lg_tell_0 : fetch 75 0 = some (.aload_n 0) := by decide +kernel
theorem e_Lg_tell_0 (a1 a2 : AV) (σ : aM) (l0 : Option (Nat × Int)) (r : List AV)  : ev 75 0 [aQ l0, a1, a2] (r) σ = ev 75 1 [aQ l0, a1, a2] (aQ l0 :: r) σ := ev_go f_Lg_tell_0 rfl
theorem f_Lg_tell_1 : fetch 75 1 = some (.iload_n 1) := by decide +kernel
theorem e_Lg_tell_1 (a0 a2 : AV) (σ : aM) (l1 : Int) (r : List AV)  : ev 75 1 [a0, aI l1, a2] (r) σ = ev 75 2 [a0, aI l1, a2] (aI l1 :: r) σ := ev_go f_Lg_tell_1 rfl
theorem f_Lg_tell_2 : fetch 75 2 = some (.invokevirtual 42) := by decide +kernel
theorem e_Lg_tell_2 (a0 a1 a2 : AV) (σ : aM) (s0 : Int) (s1 : Int) : ev 75 2 [a0, a1, a2] [aI s1, aR 9 s0] σ = evK 75 5 [a0, a1, a2] [] (ev 74 0 [aR 9 s0, aI s1] [] σ) := ev_call f_Lg_tell_2 rfl rfl
theorem f_Lg_tell_5 : fetch 75 5 = some (.ifCond .eq 12) := by decide +kernel
theorem e_Lg_tell_5 (a0 a1 a2 : AV) (σ : aM) (x : Int) (r : List AV) : ev 75 5 [a0, a1, a2] (aI x :: r) σ = if x = 0 then ev 75 17 [a0, a1, a2] r σ else ev 75 8 [a0, a1, a2] r σ := ev_br f_Lg_tell_5 rfl bc_eq
theorem f_Lg_tell_8 : fetch 75 8 = some (.iload_n 2) := by decide +kernel
theorem e_Lg_tell_8 (a0 a1 : AV) (σ : aM) (l2 : Int) (r : List AV)  : ev 75 8 [a0, a1, aI l2] (r) σ = ev 75 9 [a0, a1, aI l2] (aI l2 :: r) σ := ev_go f_Lg_tell_8 rfl
theorem f_Lg_tell_9 : fetch 75 9 = some (.ifCond .lt 8) := by decide +kernel
theorem e_Lg_tell_9 (a0 a1 a2 : AV) (σ : aM) (x : Int) (r : List AV) : ev 75 9 [a0, a1, a2] (aI x :: r) σ = if x < 0 then ev 75 17 [a0, a1, a2] r σ else ev 75 12 [a0, a1, a2] r σ := ev_br f_Lg_tell_9 rfl bc_lt
theorem f_Lg_tell_12 : fetch 75 12 = some (.iload_n 2) := by decide +kernel
theorem e_Lg_tell_12 (a0 a1 : AV) (σ : aM) (l2 : Int) (r : List AV)  : ev 75 12 [a0, a1, aI l2] (r) σ = ev 75 13 [a0, a1, aI l2] (aI l2 :: r) σ := ev_go f_Lg_tell_12 rfl
theorem f_Lg_tell_13 : fetch 75 13 = some (.iconst 4) := by decide +kernel
theorem e_Lg_tell_13 (a0 a1 a2 : AV) (σ : aM) (r : List AV)  : ev 75 13 [a0, a1, a2] (r) σ = ev 75 14 [a0, a1, a2] (aI 4 :: r) σ := ev_go f_Lg_tell_13 rfl
theorem f_Lg_tell_14 : fetch 75 14 = some (.if_icmp .lt 5) := by decide +kernel
theorem e_Lg_tell_14 (a0 a1 a2 : AV) (σ : aM) (x z : Int) (r : List AV) : ev 75 14 [a0, a1, a2] (aI z :: aI x :: r) σ = if x < z then ev 75 19 [a0, a1, a2] r σ else ev 75 17 [a0, a1, a2] r σ := ev_br f_Lg_tell_14 rfl bc_lt
theorem f_Lg_tell_17 : fetch 75 17 = some (.iconst (-1)) := by decide +kernel
theorem e_Lg_tell_17 (a0 a1 a2 : AV) (σ : aM) (r : List AV)  : ev 75 17 [a0, a1, a2] (r) σ = ev 75 18 [a0, a1, a2] (aI (-1) :: r) σ := ev_go f_Lg_tell_17 rfl
theorem f_Lg_tell_18 : fetch 75 18 = some (.ireturn) := by decide +kernel
theorem e_Lg_tell_18 (a0 a1 a2 : AV) (σ : aM) (x : Int) : ev 75 18 [a0, a1, a2] [aI x] σ = some ((some (aI x)), σ) := ev_ret f_Lg_tell_18 rfl
theorem f_Lg_tell_19 : fetch 75 19 = some (.aload_n 0) := by decide +kernel
theorem e_Lg_tell_19 (a1 a2 : AV) (σ : aM) (l0 : Option (Nat × Int)) (r : List AV)  : ev 75 19 [aQ l0, a1, a2] (r) σ = ev 75 20 [aQ l0, a1, a2] (aQ l0 :: r) σ := ev_go f_Lg_tell_19 rfl
theorem f_Lg_tell_20 : fetch 75 20 = some (.getfield 9) := by decide +kernel
theorem e_Lg_tell_20 (a0 a1 a2 : AV) (σ : aM) (i : Int) (r : List AV)  : ev 75 20 [a0, a1, a2] (aR 9 i :: r) σ = ev 75 23 [a0, a1, a2] (aR 10 i :: r) σ := ev_go f_Lg_tell_20 rfl
theorem f_Lg_tell_23 : fetch 75 23 = some (.iload_n 1) := by decide +kernel
theorem e_Lg_tell_23 (a0 a2 : AV) (σ : aM) (l1 : Int) (r : List AV)  : ev 75 23 [a0, aI l1, a2] (r) σ = ev 75 24 [a0, aI l1, a2] (aI l1 :: r) σ := ev_go f_Lg_tell_23 rfl
theorem f_Lg_tell_24 : fetch 75 24 = some (.iconst 4) := by decide +kernel
theorem e_Lg_tell_24 (a0 a1 a2 : AV) (σ : aM) (r : List AV)  : ev 75 24 [a0, a1, a2] (r) σ = ev 75 25 [a0, a1, a2] (aI 4 :: r) σ := ev_go f_Lg_tell_24 rfl
theorem f_Lg_tell_25 : fetch 75 25 = some (.imul) := by decide +kernel
theorem e_Lg_tell_25 (a0 a1 a2 : AV) (σ : aM) (x z : Int) (r : List AV)  : ev 75 25 [a0, a1, a2] (aI z :: aI x :: r) σ = ev 75 26 [a0, a1, a2] (aI (wr (x * z)) :: r) σ := ev_go f_Lg_tell_25 rfl
theorem f_Lg_tell_26 : fetch 75 26 = some (.iload_n 2) := by decide +kernel
theorem e_Lg_tell_26 (a0 a1 : AV) (σ : aM) (l2 : Int) (r : List AV)  : ev 75 26 [a0, a1, aI l2] (r) σ = ev 75 27 [a0, a1, aI l2] (aI l2 :: r) σ := ev_go f_Lg_tell_26 rfl
theorem f_Lg_tell_27 : fetch 75 27 = some (.iadd) := by decide +kernel
theorem e_Lg_tell_27 (a0 a1 a2 : AV) (σ : aM) (x z : Int) (r : List AV)  : ev 75 27 [a0, a1, a2] (aI z :: aI x :: r) σ = ev 75 28 [a0, a1, a2] (aI (wr (x + z)) :: r) σ := ev_go f_Lg_tell_27 rfl
theorem f_Lg_tell_28 : fetch 75 28 = some (.iaload) := by decide +kernel
theorem e_Lg_tell_28 (a0 a1 a2 : AV) (σ : aM) (x : Int) (i : Int) (r : List AV) (h : 0 ≤ x ∧ x < 800) : ev 75 28 [a0, a1, a2] (aI x :: aR 10 i :: r) σ = ev 75 29 [a0, a1, a2] (aI (gI σ 10 i x) :: r) σ := ev_ld (j := i) f_Lg_tell_28 rfl rfl (by decide) rfl h
theorem f_Lg_tell_29 : fetch 75 29 = some (.ireturn) := by decide +kernel
theorem e_Lg_tell_29 (a0 a1 a2 : AV) (σ : aM) (x : Int) : ev 75 29 [a0, a1, a2] [aI x] σ = some ((some (aI x)), σ) := ev_ret f_Lg_tell_29 rfl
theorem f_Lg_isToldBy_0 : fetch 76 0 = some (.aload_n 0) := by decide +kernel
theorem e_Lg_isToldBy_0 (a1 a2 a3 : AV) (σ : aM) (l0 : Option (Nat × Int)) (r : List AV)  : ev 76 0 [aQ l0, a1, a2, a3] (r) σ = ev 76 1 [aQ l0, a1, a2, a3] (aQ l0 :: r) σ := ev_go f_Lg_isToldBy_0 rfl
theorem f_Lg_isToldBy_1 : fetch 76 1 = some (.iload_n 2) := by decide +kernel
theorem e_Lg_isToldBy_1 (a0 a1 a3 : AV) (σ : aM) (l2 : Int) (r : List AV)  : ev 76 1 [a0, a1, aI l2, a3] (r) σ = ev 76 2 [a0, a1, aI l2, a3] (aI l2 :: r) σ := ev_go f_Lg_isToldBy_1 rfl
theorem f_Lg_isToldBy_2 : fetch 76 2 = some (.invokevirtual 42) := by decide +kernel
theorem e_Lg_isToldBy_2 (a0 a1 a2 a3 : AV) (σ : aM) (s0 : Int) (s1 : Int) : ev 76 2 [a0, a1, a2, a3] [aI s1, aR 9 s0] σ = evK 76 5 [a0, a1, a2, a3] [] (ev 74 0 [aR 9 s0, aI s1] [] σ) := ev_call f_Lg_isToldBy_2 rfl rfl
theorem f_Lg_isToldBy_5 : fetch 76 5 = some (.ifCond .ne 5) := by decide +kernel
theorem e_Lg_isToldBy_5 (a0 a1 a2 a3 : AV) (σ : aM) (x : Int) (r : List AV) : ev 76 5 [a0, a1, a2, a3] (aI x :: r) σ = if ¬ x = 0 then ev 76 10 [a0, a1, a2, a3] r σ else ev 76 8 [a0, a1, a2, a3] r σ := ev_br f_Lg_isToldBy_5 rfl bc_ne
theorem f_Lg_isToldBy_8 : fetch 76 8 = some (.iconst 0) := by decide +kernel
theorem e_Lg_isToldBy_8 (a0 a1 a2 a3 : AV) (σ : aM) (r : List AV)  : ev 76 8 [a0, a1, a2, a3] (r) σ = ev 76 9 [a0, a1, a2, a3] (aI 0 :: r) σ := ev_go f_Lg_isToldBy_8 rfl
theorem f_Lg_isToldBy_9 : fetch 76 9 = some (.ireturn) := by decide +kernel
theorem e_Lg_isToldBy_9 (a0 a1 a2 a3 : AV) (σ : aM) (x : Int) (h : x = 0 ∨ x = 1) : ev 76 9 [a0, a1, a2, a3] [aI x] σ = some ((some (aI x)), σ) := ev_rB f_Lg_isToldBy_9 rfl h
theorem f_Lg_isToldBy_10 : fetch 76 10 = some (.iconst 0) := by decide +kernel
theorem e_Lg_isToldBy_10 (a0 a1 a2 a3 : AV) (σ : aM) (r : List AV)  : ev 76 10 [a0, a1, a2, a3] (r) σ = ev 76 11 [a0, a1, a2, a3] (aI 0 :: r) σ := ev_go f_Lg_isToldBy_10 rfl
theorem f_Lg_isToldBy_11 : fetch 76 11 = some (.istore_n 3) := by decide +kernel
theorem e_Lg_isToldBy_11 (a0 a1 a3 : AV) (σ : aM) (x : Int) (l2 : Int) (r : List AV)  : ev 76 11 [a0, a1, aI l2, a3] (aI x :: r) σ = ev 76 12 [a0, a1, aI l2, aI x] (r) σ := ev_go f_Lg_isToldBy_11 rfl
theorem f_Lg_isToldBy_12 : fetch 76 12 = some (.iload_n 3) := by decide +kernel
theorem e_Lg_isToldBy_12 (a0 a1 a2 : AV) (σ : aM) (l3 : Int) (r : List AV)  : ev 76 12 [a0, a1, a2, aI l3] (r) σ = ev 76 13 [a0, a1, a2, aI l3] (aI l3 :: r) σ := ev_go f_Lg_isToldBy_12 rfl
theorem f_Lg_isToldBy_13 : fetch 76 13 = some (.iconst 4) := by decide +kernel
theorem e_Lg_isToldBy_13 (a0 a1 a2 a3 : AV) (σ : aM) (r : List AV)  : ev 76 13 [a0, a1, a2, a3] (r) σ = ev 76 14 [a0, a1, a2, a3] (aI 4 :: r) σ := ev_go f_Lg_isToldBy_13 rfl
theorem f_Lg_isToldBy_14 : fetch 76 14 = some (.if_icmp .ge 29) := by decide +kernel
theorem e_Lg_isToldBy_14 (a0 a1 a2 a3 : AV) (σ : aM) (x z : Int) (r : List AV) : ev 76 14 [a0, a1, a2, a3] (aI z :: aI x :: r) σ = if z ≤ x then ev 76 43 [a0, a1, a2, a3] r σ else ev 76 17 [a0, a1, a2, a3] r σ := ev_br f_Lg_isToldBy_14 rfl bc_ge
theorem f_Lg_isToldBy_17 : fetch 76 17 = some (.aload_n 1) := by decide +kernel
theorem e_Lg_isToldBy_17 (a0 a2 a3 : AV) (σ : aM) (l1 : Option (Nat × Int)) (r : List AV)  : ev 76 17 [a0, aQ l1, a2, a3] (r) σ = ev 76 18 [a0, aQ l1, a2, a3] (aQ l1 :: r) σ := ev_go f_Lg_isToldBy_17 rfl
theorem f_Lg_isToldBy_18 : fetch 76 18 = some (.iload_n 2) := by decide +kernel
theorem e_Lg_isToldBy_18 (a0 a1 a3 : AV) (σ : aM) (l2 : Int) (r : List AV)  : ev 76 18 [a0, a1, aI l2, a3] (r) σ = ev 76 19 [a0, a1, aI l2, a3] (aI l2 :: r) σ := ev_go f_Lg_isToldBy_18 rfl
theorem f_Lg_isToldBy_19 : fetch 76 19 = some (.iconst 4) := by decide +kernel
theorem e_Lg_isToldBy_19 (a0 a1 a2 a3 : AV) (σ : aM) (r : List AV)  : ev 76 19 [a0, a1, a2, a3] (r) σ = ev 76 20 [a0, a1, a2, a3] (aI 4 :: r) σ := ev_go f_Lg_isToldBy_19 rfl
theorem f_Lg_isToldBy_20 : fetch 76 20 = some (.imul) := by decide +kernel
theorem e_Lg_isToldBy_20 (a0 a1 a2 a3 : AV) (σ : aM) (x z : Int) (r : List AV)  : ev 76 20 [a0, a1, a2, a3] (aI z :: aI x :: r) σ = ev 76 21 [a0, a1, a2, a3] (aI (wr (x * z)) :: r) σ := ev_go f_Lg_isToldBy_20 rfl
theorem f_Lg_isToldBy_21 : fetch 76 21 = some (.iload_n 3) := by decide +kernel
theorem e_Lg_isToldBy_21 (a0 a1 a2 : AV) (σ : aM) (l3 : Int) (r : List AV)  : ev 76 21 [a0, a1, a2, aI l3] (r) σ = ev 76 22 [a0, a1, a2, aI l3] (aI l3 :: r) σ := ev_go f_Lg_isToldBy_21 rfl
theorem f_Lg_isToldBy_22 : fetch 76 22 = some (.iadd) := by decide +kernel
theorem e_Lg_isToldBy_22 (a0 a1 a2 a3 : AV) (σ : aM) (x z : Int) (r : List AV)  : ev 76 22 [a0, a1, a2, a3] (aI z :: aI x :: r) σ = ev 76 23 [a0, a1, a2, a3] (aI (wr (x + z)) :: r) σ := ev_go f_Lg_isToldBy_22 rfl
theorem f_Lg_isToldBy_23 : fetch 76 23 = some (.invokevirtual 46) := by decide +kernel
theorem e_Lg_isToldBy_23 (a0 a1 a2 a3 : AV) (σ : aM) (s0 : Int) (s1 : Int) : ev 76 23 [a0, a1, a2, a3] [aI s1, aR 2 s0] σ = evK 76 26 [a0, a1, a2, a3] [] (ev 62 0 [aR 2 s0, aI s1] [] σ) := ev_call f_Lg_isToldBy_23 rfl rfl
theorem f_Lg_isToldBy_26 : fetch 76 26 = some (.aload_n 0) := by decide +kernel
theorem e_Lg_isToldBy_26 (a1 a2 a3 : AV) (σ : aM) (l0 : Option (Nat × Int)) (r : List AV)  : ev 76 26 [aQ l0, a1, a2, a3] (r) σ = ev 76 27 [aQ l0, a1, a2, a3] (aQ l0 :: r) σ := ev_go f_Lg_isToldBy_26 rfl
theorem f_Lg_isToldBy_27 : fetch 76 27 = some (.iload_n 2) := by decide +kernel
theorem e_Lg_isToldBy_27 (a0 a1 a3 : AV) (σ : aM) (l2 : Int) (r : List AV)  : ev 76 27 [a0, a1, aI l2, a3] (r) σ = ev 76 28 [a0, a1, aI l2, a3] (aI l2 :: r) σ := ev_go f_Lg_isToldBy_27 rfl
theorem f_Lg_isToldBy_28 : fetch 76 28 = some (.iload_n 3) := by decide +kernel
theorem e_Lg_isToldBy_28 (a0 a1 a2 : AV) (σ : aM) (l3 : Int) (r : List AV)  : ev 76 28 [a0, a1, a2, aI l3] (r) σ = ev 76 29 [a0, a1, a2, aI l3] (aI l3 :: r) σ := ev_go f_Lg_isToldBy_28 rfl
theorem f_Lg_isToldBy_29 : fetch 76 29 = some (.invokevirtual 52) := by decide +kernel
theorem e_Lg_isToldBy_29 (a0 a1 a2 a3 : AV) (σ : aM) (s0 : Int) (s1 : Int) (s2 : Int) (s3 : Int) : ev 76 29 [a0, a1, a2, a3] [aI s3, aI s2, aR 9 s1, aI s0] σ = evK 76 32 [a0, a1, a2, a3] [aI s0] (ev 75 0 [aR 9 s1, aI s2, aI s3] [] σ) := ev_call f_Lg_isToldBy_29 rfl rfl
theorem f_Lg_isToldBy_32 : fetch 76 32 = some (.if_icmp .eq 5) := by decide +kernel
theorem e_Lg_isToldBy_32 (a0 a1 a2 a3 : AV) (σ : aM) (x z : Int) (r : List AV) : ev 76 32 [a0, a1, a2, a3] (aI z :: aI x :: r) σ = if x = z then ev 76 37 [a0, a1, a2, a3] r σ else ev 76 35 [a0, a1, a2, a3] r σ := ev_br f_Lg_isToldBy_32 rfl bc_eq
theorem f_Lg_isToldBy_35 : fetch 76 35 = some (.iconst 0) := by decide +kernel
theorem e_Lg_isToldBy_35 (a0 a1 a2 a3 : AV) (σ : aM) (r : List AV)  : ev 76 35 [a0, a1, a2, a3] (r) σ = ev 76 36 [a0, a1, a2, a3] (aI 0 :: r) σ := ev_go f_Lg_isToldBy_35 rfl
theorem f_Lg_isToldBy_36 : fetch 76 36 = some (.ireturn) := by decide +kernel
theorem e_Lg_isToldBy_36 (a0 a1 a2 a3 : AV) (σ : aM) (x : Int) (h : x = 0 ∨ x = 1) : ev 76 36 [a0, a1, a2, a3] [aI x] σ = some ((some (aI x)), σ) := ev_rB f_Lg_isToldBy_36 rfl h
theorem f_Lg_isToldBy_37 : fetch 76 37 = some (.iinc 3 1) := by decide +kernel
theorem e_Lg_isToldBy_37 (a0 a1 : AV) (σ : aM) (l3 : Int) (l2 : Int) (r : List AV)  : ev 76 37 [a0, a1, aI l2, aI l3] (r) σ = ev 76 40 [a0, a1, aI l2, aI (wr (l3 + 1))] (r) σ := ev_go f_Lg_isToldBy_37 rfl
theorem f_Lg_isToldBy_40 : fetch 76 40 = some (.goto (-28)) := by decide +kernel
theorem e_Lg_isToldBy_40 (a0 a1 a2 a3 : AV) (σ : aM) (r : List AV)  : ev 76 40 [a0, a1, a2, a3] (r) σ = ev 76 12 [a0, a1, a2, a3] (r) σ := ev_go f_Lg_isToldBy_40 rfl
theorem f_Lg_isToldBy_43 : fetch 76 43 = some (.iconst 1) := by decide +kernel
theorem e_Lg_isToldBy_43 (a0 a1 a2 a3 : AV) (σ : aM) (r : List AV)  : ev 76 43 [a0, a1, a2, a3] (r) σ = ev 76 44 [a0, a1, a2, a3] (aI 1 :: r) σ := ev_go f_Lg_isToldBy_43 rfl
theorem f_Lg_isToldBy_44 : fetch 76 44 = some (.ireturn) := by decide +kernel
theorem e_Lg_isToldBy_44 (a0 a1 a2 a3 : AV) (σ : aM) (x : Int) (h : x = 0 ∨ x = 1) : ev 76 44 [a0, a1, a2, a3] [aI x] σ = some ((some (aI x)), σ) := ev_rB f_Lg_isToldBy_44 rfl h
theorem f_Arr_fillL_0 : fetch 211 0 = some (.iconst 0) := by decide +kernel
theorem e_Arr_fillL_0 (a0 a1 a2 a3 a4 : AV) (σ : aM) (r : List AV)  : ev 211 0 [a0, a1, a2, a3, a4] (r) σ = ev 211 1 [a0, a1, a2, a3, a4] (aI 0 :: r) σ := ev_go f_Arr_fillL_0 rfl
theorem f_Arr_fillL_1 : fetch 211 1 = some (.istore_n 3) := by decide +kernel
theorem e_Arr_fillL_1 (a0 a1 a3 a4 : AV) (σ : aM) (x : Int) (r : List AV)  : ev 211 1 [a0, a1, aU, a3, a4] (aI x :: r) σ = ev 211 2 [a0, a1, aU, aI x, a4] (r) σ := ev_go f_Arr_fillL_1 rfl
theorem f_Arr_fillL_2 : fetch 211 2 = some (.aload_n 0) := by decide +kernel
theorem e_Arr_fillL_2 (a1 a2 a3 a4 : AV) (σ : aM) (l0 : Option (Nat × Int)) (r : List AV)  : ev 211 2 [aQ l0, a1, a2, a3, a4] (r) σ = ev 211 3 [aQ l0, a1, a2, a3, a4] (aQ l0 :: r) σ := ev_go f_Arr_fillL_2 rfl
theorem f_Arr_fillL_3 : fetch 211 3 = some (.arraylength) := by decide +kernel
theorem e_Arr_fillL_3 (a0 a1 a2 a3 a4 : AV) (σ : aM) (t : Nat) (i : Int) (r : List AV) (hc : fC t = 99) (hn : t ≠ 34) (h : (fL t : Int) < 2147483648) : ev 211 3 [a0, a1, a2, a3, a4] (aR t i :: r) σ = ev 211 4 [a0, a1, a2, a3, a4] (aI (fL t : Int) :: r) σ := by rw [← aLen_n (σ := σ) hn rfl]; exact ev_cd f_Arr_fillL_3 rfl ⟨hc, by rw [aLen_n hn rfl]; exact inr32_of ⟨by omega, h⟩⟩
theorem f_Arr_fillL_4 : fetch 211 4 = some (.istore 4) := by decide +kernel
theorem e_Arr_fillL_4 (a0 a1 a2 a4 : AV) (σ : aM) (x : Int) (l3 : Int) (r : List AV)  : ev 211 4 [a0, a1, a2, aI l3, a4] (aI x :: r) σ = ev 211 6 [a0, a1, a2, aI l3, aI x] (r) σ := ev_go f_Arr_fillL_4 rfl
theorem f_Arr_fillL_6 : fetch 211 6 = some (.iload_n 3) := by decide +kernel
theorem e_Arr_fillL_6 (a0 a1 a2 a4 : AV) (σ : aM) (l3 : Int) (r : List AV)  : ev 211 6 [a0, a1, a2, aI l3, a4] (r) σ = ev 211 7 [a0, a1, a2, aI l3, a4] (aI l3 :: r) σ := ev_go f_Arr_fillL_6 rfl
theorem f_Arr_fillL_7 : fetch 211 7 = some (.iload 4) := by decide +kernel
theorem e_Arr_fillL_7 (a0 a1 a2 a3 : AV) (σ : aM) (l4 : Int) (r : List AV)  : ev 211 7 [a0, a1, a2, a3, aI l4] (r) σ = ev 211 9 [a0, a1, a2, a3, aI l4] (aI l4 :: r) σ := ev_go f_Arr_fillL_7 rfl
theorem f_Arr_fillL_9 : fetch 211 9 = some (.if_icmp .ge 13) := by decide +kernel
theorem e_Arr_fillL_9 (a0 a1 a2 a3 a4 : AV) (σ : aM) (x z : Int) (r : List AV) : ev 211 9 [a0, a1, a2, a3, a4] (aI z :: aI x :: r) σ = if z ≤ x then ev 211 22 [a0, a1, a2, a3, a4] r σ else ev 211 12 [a0, a1, a2, a3, a4] r σ := ev_br f_Arr_fillL_9 rfl bc_ge
theorem f_Arr_fillL_12 : fetch 211 12 = some (.aload_n 0) := by decide +kernel
theorem e_Arr_fillL_12 (a1 a2 a3 a4 : AV) (σ : aM) (l0 : Option (Nat × Int)) (r : List AV)  : ev 211 12 [aQ l0, a1, a2, a3, a4] (r) σ = ev 211 13 [aQ l0, a1, a2, a3, a4] (aQ l0 :: r) σ := ev_go f_Arr_fillL_12 rfl
theorem f_Arr_fillL_13 : fetch 211 13 = some (.iload_n 3) := by decide +kernel
theorem e_Arr_fillL_13 (a0 a1 a2 a4 : AV) (σ : aM) (l3 : Int) (r : List AV)  : ev 211 13 [a0, a1, a2, aI l3, a4] (r) σ = ev 211 14 [a0, a1, a2, aI l3, a4] (aI l3 :: r) σ := ev_go f_Arr_fillL_13 rfl
theorem f_Arr_fillL_14 : fetch 211 14 = some (.lload_n 1) := by decide +kernel
theorem e_Arr_fillL_14 (a0 a2 a3 a4 : AV) (σ : aM) (l1 : Int64) (r : List AV)  : ev 211 14 [a0, aJ l1, a2, a3, a4] (r) σ = ev 211 15 [a0, aJ l1, a2, a3, a4] (aJ l1 :: r) σ := ev_go f_Arr_fillL_14 rfl
theorem f_Arr_fillL_15 : fetch 211 15 = some (.lastore) := by decide +kernel
theorem e_Arr_fillL_15 (a0 a1 a2 a3 a4 : AV) (σ : aM) (x : Int) (t : Nat) (i : Int) (v : Int64) (r : List AV) (hT : fT t = 1) (hn : t ≠ 34) (h : 0 ≤ x ∧ x < (fL t : Int)) : ev 211 15 [a0, a1, a2, a3, a4] (aJ v :: aI x :: aR t i :: r) σ = ev 211 16 [a0, a1, a2, a3, a4] (r) (uL σ t i x v) := ev_st1 f_Arr_fillL_15 rfl hT hn rfl h
theorem f_Arr_fillL_16 : fetch 211 16 = some (.iinc 3 1) := by decide +kernel
theorem e_Arr_fillL_16 (a0 a1 a4 : AV) (σ : aM) (l3 : Int) (r : List AV)  : ev 211 16 [a0, a1, aU, aI l3, a4] (r) σ = ev 211 19 [a0, a1, aU, aI (wr (l3 + 1)), a4] (r) σ := ev_go f_Arr_fillL_16 rfl
theorem f_Arr_fillL_19 : fetch 211 19 = some (.goto (-13)) := by decide +kernel
theorem e_Arr_fillL_19 (a0 a1 a2 a3 a4 : AV) (σ : aM) (r : List AV)  : ev 211 19 [a0, a1, a2, a3, a4] (r) σ = ev 211 6 [a0, a1, a2, a3, a4] (r) σ := ev_go f_Arr_fillL_19 rfl
theorem f_Arr_fillL_22 : fetch 211 22 = some (.return_) := by decide +kernel
theorem e_Arr_fillL_22 (a0 a1 a2 a3 a4 : AV) (σ : aM)  : ev 211 22 [a0, a1, a2, a3, a4] [] σ = some (none, σ) := ev_ret f_Arr_fillL_22 rfl
theorem f_Arr_fillI_0 : fetch 212 0 = some (.iconst 0) := by decide +kernel
theorem e_Arr_fillI_0 (a0 a1 a2 a3 : AV) (σ : aM) (r : List AV)  : ev 212 0 [a0, a1, a2, a3] (r) σ = ev 212 1 [a0, a1, a2, a3] (aI 0 :: r) σ := ev_go f_Arr_fillI_0 rfl
theorem f_Arr_fillI_1 : fetch 212 1 = some (.istore_n 2) := by decide +kernel
theorem e_Arr_fillI_1 (a0 a2 a3 : AV) (σ : aM) (x : Int) (l1 : Int) (r : List AV)  : ev 212 1 [a0, aI l1, a2, a3] (aI x :: r) σ = ev 212 2 [a0, aI l1, aI x, a3] (r) σ := ev_go f_Arr_fillI_1 rfl
theorem f_Arr_fillI_2 : fetch 212 2 = some (.aload_n 0) := by decide +kernel
theorem e_Arr_fillI_2 (a1 a2 a3 : AV) (σ : aM) (l0 : Option (Nat × Int)) (r : List AV)  : ev 212 2 [aQ l0, a1, a2, a3] (r) σ = ev 212 3 [aQ l0, a1, a2, a3] (aQ l0 :: r) σ := ev_go f_Arr_fillI_2 rfl
theorem f_Arr_fillI_3 : fetch 212 3 = some (.arraylength) := by decide +kernel
theorem e_Arr_fillI_3 (a0 a1 a2 a3 : AV) (σ : aM) (t : Nat) (i : Int) (r : List AV) (hc : fC t = 99) (hn : t ≠ 34) (h : (fL t : Int) < 2147483648) : ev 212 3 [a0, a1, a2, a3] (aR t i :: r) σ = ev 212 4 [a0, a1, a2, a3] (aI (fL t : Int) :: r) σ := by rw [← aLen_n (σ := σ) hn rfl]; exact ev_cd f_Arr_fillI_3 rfl ⟨hc, by rw [aLen_n hn rfl]; exact inr32_of ⟨by omega, h⟩⟩
theorem f_Arr_fillI_4 : fetch 212 4 = some (.istore_n 3) := by decide +kernel
theorem e_Arr_fillI_4 (a0 a1 a3 : AV) (σ : aM) (x : Int) (l2 : Int) (r : List AV)  : ev 212 4 [a0, a1, aI l2, a3] (aI x :: r) σ = ev 212 5 [a0, a1, aI l2, aI x] (r) σ := ev_go f_Arr_fillI_4 rfl
theorem f_Arr_fillI_5 : fetch 212 5 = some (.iload_n 2) := by decide +kernel
theorem e_Arr_fillI_5 (a0 a1 a3 : AV) (σ : aM) (l2 : Int) (r : List AV)  : ev 212 5 [a0, a1, aI l2, a3] (r) σ = ev 212 6 [a0, a1, aI l2, a3] (aI l2 :: r) σ := ev_go f_Arr_fillI_5 rfl
theorem f_Arr_fillI_6 : fetch 212 6 = some (.iload_n 3) := by decide +kernel
theorem e_Arr_fillI_6 (a0 a1 a2 : AV) (σ : aM) (l3 : Int) (r : List AV)  : ev 212 6 [a0, a1, a2, aI l3] (r) σ = ev 212 7 [a0, a1, a2, aI l3] (aI l3 :: r) σ := ev_go f_Arr_fillI_6 rfl
theorem f_Arr_fillI_7 : fetch 212 7 = some (.if_icmp .ge 13) := by decide +kernel
theorem e_Arr_fillI_7 (a0 a1 a2 a3 : AV) (σ : aM) (x z : Int) (r : List AV) : ev 212 7 [a0, a1, a2, a3] (aI z :: aI x :: r) σ = if z ≤ x then ev 212 20 [a0, a1, a2, a3] r σ else ev 212 10 [a0, a1, a2, a3] r σ := ev_br f_Arr_fillI_7 rfl bc_ge
theorem f_Arr_fillI_10 : fetch 212 10 = some (.aload_n 0) := by decide +kernel
theorem e_Arr_fillI_10 (a1 a2 a3 : AV) (σ : aM) (l0 : Option (Nat × Int)) (r : List AV)  : ev 212 10 [aQ l0, a1, a2, a3] (r) σ = ev 212 11 [aQ l0, a1, a2, a3] (aQ l0 :: r) σ := ev_go f_Arr_fillI_10 rfl
theorem f_Arr_fillI_11 : fetch 212 11 = some (.iload_n 2) := by decide +kernel
theorem e_Arr_fillI_11 (a0 a1 a3 : AV) (σ : aM) (l2 : Int) (r : List AV)  : ev 212 11 [a0, a1, aI l2, a3] (r) σ = ev 212 12 [a0, a1, aI l2, a3] (aI l2 :: r) σ := ev_go f_Arr_fillI_11 rfl
theorem f_Arr_fillI_12 : fetch 212 12 = some (.iload_n 1) := by decide +kernel
theorem e_Arr_fillI_12 (a0 a2 a3 : AV) (σ : aM) (l1 : Int) (r : List AV)  : ev 212 12 [a0, aI l1, a2, a3] (r) σ = ev 212 13 [a0, aI l1, a2, a3] (aI l1 :: r) σ := ev_go f_Arr_fillI_12 rfl
theorem f_Arr_fillI_13 : fetch 212 13 = some (.iastore) := by decide +kernel
theorem e_Arr_fillI_13 (a0 a1 a2 a3 : AV) (σ : aM) (x : Int) (t : Nat) (i : Int) (v : Int) (r : List AV) (hT : fT t = 0) (hn : t ≠ 34) (h : 0 ≤ x ∧ x < (fL t : Int)) : ev 212 13 [a0, a1, a2, a3] (aI v :: aI x :: aR t i :: r) σ = ev 212 14 [a0, a1, a2, a3] (r) (uI σ t i x v) := ev_st f_Arr_fillI_13 rfl hT hn hn rfl h
theorem f_Arr_fillI_14 : fetch 212 14 = some (.iinc 2 1) := by decide +kernel
theorem e_Arr_fillI_14 (a0 a3 : AV) (σ : aM) (l2 : Int) (l1 : Int) (r : List AV)  : ev 212 14 [a0, aI l1, aI l2, a3] (r) σ = ev 212 17 [a0, aI l1, aI (wr (l2 + 1)), a3] (r) σ := ev_go f_Arr_fillI_14 rfl
theorem f_Arr_fillI_17 : fetch 212 17 = some (.goto (-12)) := by decide +kernel
theorem e_Arr_fillI_17 (a0 a1 a2 a3 : AV) (σ : aM) (r : List AV)  : ev 212 17 [a0, a1, a2, a3] (r) σ = ev 212 5 [a0, a1, a2, a3] (r) σ := ev_go f_Arr_fillI_17 rfl
theorem f_Arr_fillI_20 : fetch 212 20 = some (.return_) := by decide +kernel
theorem e_Arr_fillI_20 (a0 a1 a2 a3 : AV) (σ : aM)  : ev 212 20 [a0, a1, a2, a3] [] σ = some (none, σ) := ev_ret f_Arr_fillI_20 rfl
