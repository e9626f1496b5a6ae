theorem f_Law_law_18 : fetch 215 18 = some (.iload_n 3) := by decide +kernel
theorem e_Law_law_18 (a0 a1 a2 : AV) (σ : aM) (l3 : Int) (r : List AV)  : ev 215 18 [a0, a1, a2, aI l3] (r) σ = ev 215 19 [a0, a1, a2, aI l3] (aI l3 :: r) σ := ev_go f_Law_law_18 rfl
theorem f_Law_law_19 : fetch 215 19 = some (.aload_n 0) := by decide +kernel
theorem e_Law_law_19 (a1 a2 a3 : AV) (σ : aM) (l0 : Option (Nat × Int)) (r : List AV)  : ev 215 19 [aQ l0, a1, a2, a3] (r) σ = ev 215 20 [aQ l0, a1, a2, a3] (aQ l0 :: r) σ := ev_go f_Law_law_19 rfl
theorem f_Law_law_20 : fetch 215 20 = some (.arraylength) := by decide +kernel
theorem e_Law_law_20 (a0 a1 a2 a3 : AV) (σ : aM) (r : List AV) (h : -2147483648 ≤ gI σ 34 0 (-1) ∧ gI σ 34 0 (-1) < 2147483648) : ev 215 20 [a0, a1, a2, a3] (aR 34 0 :: r) σ = ev 215 21 [a0, a1, a2, a3] (aI (gI σ 34 0 (-1)) :: r) σ := ev_cd f_Law_law_20 rfl ⟨rfl, inr32_of h⟩
theorem f_Law_law_21 : fetch 215 21 = some (.bipush 6) := by decide +kernel
theorem e_Law_law_21 (a0 a1 a2 a3 : AV) (σ : aM) (r : List AV)  : ev 215 21 [a0, a1, a2, a3] (r) σ = ev 215 23 [a0, a1, a2, a3] (aI 6 :: r) σ := ev_go f_Law_law_21 rfl
theorem f_Law_law_23 : fetch 215 23 = some (.isub) := by decide +kernel
theorem e_Law_law_23 (a0 a1 a2 a3 : AV) (σ : aM) (x z : Int) (r : List AV)  : ev 215 23 [a0, a1, a2, a3] (aI z :: aI x :: r) σ = ev 215 24 [a0, a1, a2, a3] (aI (wr (x - z)) :: r) σ := ev_go f_Law_law_23 rfl
theorem f_Law_law_24 : fetch 215 24 = some (.if_icmp .gt 1306) := by decide +kernel
theorem e_Law_law_24 (a0 a1 a2 a3 : AV) (σ : aM) (x z : Int) (r : List AV) : ev 215 24 [a0, a1, a2, a3] (aI z :: aI x :: r) σ = if z < x then ev 215 1330 [a0, a1, a2, a3] r σ else ev 215 27 [a0, a1, a2, a3] r σ := ev_br f_Law_law_24 rfl bc_gt
theorem f_Law_law_27 : fetch 215 27 = some (.aload_n 0) := by decide +kernel
theorem e_Law_law_27 (a1 a2 a3 : AV) (σ : aM) (l0 : Option (Nat × Int)) (r : List AV)  : ev 215 27 [aQ l0, a1, a2, a3] (r) σ = ev 215 28 [aQ l0, a1, a2, a3] (aQ l0 :: r) σ := ev_go f_Law_law_27 rfl
theorem f_Law_law_28 : fetch 215 28 = some (.iload_n 3) := by decide +kernel
theorem e_Law_law_28 (a0 a1 a2 : AV) (σ : aM) (l3 : Int) (r : List AV)  : ev 215 28 [a0, a1, a2, aI l3] (r) σ = ev 215 29 [a0, a1, a2, aI l3] (aI l3 :: r) σ := ev_go f_Law_law_28 rfl
theorem f_Law_law_29 : fetch 215 29 = some (.iaload) := by decide +kernel
theorem e_Law_law_29 (a0 a1 a2 a3 : AV) (σ : aM) (x : Int) (r : List AV) (h : 0 ≤ x ∧ x < gI σ 34 0 (-1)) : ev 215 29 [a0, a1, a2, a3] (aI x :: aR 34 0 :: r) σ = ev 215 30 [a0, a1, a2, a3] (aI (gI σ 34 0 x) :: r) σ := ev_ldS f_Law_law_29 rfl h
theorem f_Law_law_30 : fetch 215 30 = some (.bipush 63) := by decide +kernel
theorem e_Law_law_30 (a0 a1 a2 a3 : AV) (σ : aM) (r : List AV)  : ev 215 30 [a0, a1, a2, a3] (r) σ = ev 215 32 [a0, a1, a2, a3] (aI 63 :: r) σ := ev_go f_Law_law_30 rfl
theorem f_Law_law_32 : fetch 215 32 = some (.iand) := by decide +kernel
theorem e_Law_law_32 (a0 a1 a2 a3 : AV) (σ : aM) (x z : Int) (r : List AV)  : ev 215 32 [a0, a1, a2, a3] (aI z :: aI x :: r) σ = ev 215 33 [a0, a1, a2, a3] (aI (ian x z) :: r) σ := ev_go f_Law_law_32 rfl
theorem f_Law_law_33 : fetch 215 33 = some (.tableswitch 1291 0 34 #[155, 198, 271, 334, 368, 401, 424, 457, 520, 583, 636, 689, 732, 755, 768, 791, 834, 857, 870, 883, 906, 939, 972, 1015, 1038, 1071, 1084, 1117, 1140, 1163, 1196, 1219, 1242, 1255, 1268]) := by decide +kernel
theorem e_Law_law_33 (a0 a1 a2 a3 : AV) (σ : aM) (r : List AV) (x : Int) (h : x < 0 ∨ 34 < x) : ev 215 33 [a0, a1, a2, a3] (aI x :: r) σ = ev 215 1324 [a0, a1, a2, a3] r σ := ev_sw (dflt := 1291) (lo := 0) (hi := 34) (offs := #[155, 198, 271, 334, 368, 401, 424, 457, 520, 583, 636, 689, 732, 755, 768, 791, 834, 857, 870, 883, 906, 939, 972, 1015, 1038, 1071, 1084, 1117, 1140, 1163, 1196, 1219, 1242, 1255, 1268]) f_Law_law_33 rfl h rfl
theorem e_Law_law_33_0 (a0 a1 a2 a3 : AV) (σ : aM) (r : List AV) : ev 215 33 [a0, a1, a2, a3] (aI 0 :: r) σ = ev 215 188 [a0, a1, a2, a3] r σ := ev_go f_Law_law_33 rfl
theorem e_Law_law_33_1 (a0 a1 a2 a3 : AV) (σ : aM) (r : List AV) : ev 215 33 [a0, a1, a2, a3] (aI 1 :: r) σ = ev 215 231 [a0, a1, a2, a3] r σ := ev_go f_Law_law_33 rfl
theorem e_Law_law_33_2 (a0 a1 a2 a3 : AV) (σ : aM) (r : List AV) : ev 215 33 [a0, a1, a2, a3] (aI 2 :: r) σ = ev 215 304 [a0, a1, a2, a3] r σ := ev_go f_Law_law_33 rfl
theorem e_Law_law_33_3 (a0 a1 a2 a3 : AV) (σ : aM) (r : List AV) : ev 215 33 [a0, a1, a2, a3] (aI 3 :: r) σ = ev 215 367 [a0, a1, a2, a3] r σ := ev_go f_Law_law_33 rfl
theorem e_Law_law_33_4 (a0 a1 a2 a3 : AV) (σ : aM) (r : List AV) : ev 215 33 [a0, a1, a2, a3] (aI 4 :: r) σ = ev 215 401 [a0, a1, a2, a3] r σ := ev_go f_Law_law_33 rfl
theorem e_Law_law_33_5 (a0 a1 a2 a3 : AV) (σ : aM) (r : List AV) : ev 215 33 [a0, a1, a2, a3] (aI 5 :: r) σ = ev 215 434 [a0, a1, a2, a3] r σ := ev_go f_Law_law_33 rfl
theorem e_Law_law_33_6 (a0 a1 a2 a3 : AV) (σ : aM) (r : List AV) : ev 215 33 [a0, a1, a2, a3] (aI 6 :: r) σ = ev 215 457 [a0, a1, a2, a3] r σ := ev_go f_Law_law_33 rfl
theorem e_Law_law_33_7 (a0 a1 a2 a3 : AV) (σ : aM) (r : List AV) : ev 215 33 [a0, a1, a2, a3] (aI 7 :: r) σ = ev 215 490 [a0, a1, a2, a3] r σ := ev_go f_Law_law_33 rfl
theorem e_Law_law_33_8 (a0 a1 a2 a3 : AV) (σ : aM) (r : List AV) : ev 215 33 [a0, a1, a2, a3] (aI 8 :: r) σ = ev 215 553 [a0, a1, a2, a3] r σ := ev_go f_Law_law_33 rfl
theorem e_Law_law_33_9 (a0 a1 a2 a3 : AV) (σ : aM) (r : List AV) : ev 215 33 [a0, a1, a2, a3] (aI 9 :: r) σ = ev 215 616 [a0, a1, a2, a3] r σ := ev_go f_Law_law_33 rfl
theorem e_Law_law_33_10 (a0 a1 a2 a3 : AV) (σ : aM) (r : List AV) : ev 215 33 [a0, a1, a2, a3] (aI 10 :: r) σ = ev 215 669 [a0, a1, a2, a3] r σ := ev_go f_Law_law_33 rfl
theorem e_Law_law_33_11 (a0 a1 a2 a3 : AV) (σ : aM) (r : List AV) : ev 215 33 [a0, a1, a2, a3] (aI 11 :: r) σ = ev 215 722 [a0, a1, a2, a3] r σ := ev_go f_Law_law_33 rfl
theorem e_Law_law_33_12 (a0 a1 a2 a3 : AV) (σ : aM) (r : List AV) : ev 215 33 [a0, a1, a2, a3] (aI 12 :: r) σ = ev 215 765 [a0, a1, a2, a3] r σ := ev_go f_Law_law_33 rfl
theorem e_Law_law_33_13 (a0 a1 a2 a3 : AV) (σ : aM) (r : List AV) : ev 215 33 [a0, a1, a2, a3] (aI 13 :: r) σ = ev 215 788 [a0, a1, a2, a3] r σ := ev_go f_Law_law_33 rfl
theorem e_Law_law_33_14 (a0 a1 a2 a3 : AV) (σ : aM) (r : List AV) : ev 215 33 [a0, a1, a2, a3] (aI 14 :: r) σ = ev 215 801 [a0, a1, a2, a3] r σ := ev_go f_Law_law_33 rfl
theorem e_Law_law_33_15 (a0 a1 a2 a3 : AV) (σ : aM) (r : List AV) : ev 215 33 [a0, a1, a2, a3] (aI 15 :: r) σ = ev 215 824 [a0, a1, a2, a3] r σ := ev_go f_Law_law_33 rfl
theorem e_Law_law_33_16 (a0 a1 a2 a3 : AV) (σ : aM) (r : List AV) : ev 215 33 [a0, a1, a2, a3] (aI 16 :: r) σ = ev 215 867 [a0, a1, a2, a3] r σ := ev_go f_Law_law_33 rfl
theorem e_Law_law_33_17 (a0 a1 a2 a3 : AV) (σ : aM) (r : List AV) : ev 215 33 [a0, a1, a2, a3] (aI 17 :: r) σ = ev 215 890 [a0, a1, a2, a3] r σ := ev_go f_Law_law_33 rfl
theorem e_Law_law_33_18 (a0 a1 a2 a3 : AV) (σ : aM) (r : List AV) : ev 215 33 [a0, a1, a2, a3] (aI 18 :: r) σ = ev 215 903 [a0, a1, a2, a3] r σ := ev_go f_Law_law_33 rfl
theorem e_Law_law_33_19 (a0 a1 a2 a3 : AV) (σ : aM) (r : List AV) : ev 215 33 [a0, a1, a2, a3] (aI 19 :: r) σ = ev 215 916 [a0, a1, a2, a3] r σ := ev_go f_Law_law_33 rfl
theorem e_Law_law_33_20 (a0 a1 a2 a3 : AV) (σ : aM) (r : List AV) : ev 215 33 [a0, a1, a2, a3] (aI 20 :: r) σ = ev 215 939 [a0, a1, a2, a3] r σ := ev_go f_Law_law_33 rfl
theorem e_Law_law_33_21 (a0 a1 a2 a3 : AV) (σ : aM) (r : List AV) : ev 215 33 [a0, a1, a2, a3] (aI 21 :: r) σ = ev 215 972 [a0, a1, a2, a3] r σ := ev_go f_Law_law_33 rfl
theorem e_Law_law_33_22 (a0 a1 a2 a3 : AV) (σ : aM) (r : List AV) : ev 215 33 [a0, a1, a2, a3] (aI 22 :: r) σ = ev 215 1005 [a0, a1, a2, a3] r σ := ev_go f_Law_law_33 rfl
theorem e_Law_law_33_23 (a0 a1 a2 a3 : AV) (σ : aM) (r : List AV) : ev 215 33 [a0, a1, a2, a3] (aI 23 :: r) σ = ev 215 1048 [a0, a1, a2, a3] r σ := ev_go f_Law_law_33 rfl
theorem e_Law_law_33_24 (a0 a1 a2 a3 : AV) (σ : aM) (r : List AV) : ev 215 33 [a0, a1, a2, a3] (aI 24 :: r) σ = ev 215 1071 [a0, a1, a2, a3] r σ := ev_go f_Law_law_33 rfl
theorem e_Law_law_33_25 (a0 a1 a2 a3 : AV) (σ : aM) (r : List AV) : ev 215 33 [a0, a1, a2, a3] (aI 25 :: r) σ = ev 215 1104 [a0, a1, a2, a3] r σ := ev_go f_Law_law_33 rfl
theorem e_Law_law_33_26 (a0 a1 a2 a3 : AV) (σ : aM) (r : List AV) : ev 215 33 [a0, a1, a2, a3] (aI 26 :: r) σ = ev 215 1117 [a0, a1, a2, a3] r σ := ev_go f_Law_law_33 rfl
theorem e_Law_law_33_27 (a0 a1 a2 a3 : AV) (σ : aM) (r : List AV) : ev 215 33 [a0, a1, a2, a3] (aI 27 :: r) σ = ev 215 1150 [a0, a1, a2, a3] r σ := ev_go f_Law_law_33 rfl
theorem e_Law_law_33_28 (a0 a1 a2 a3 : AV) (σ : aM) (r : List AV) : ev 215 33 [a0, a1, a2, a3] (aI 28 :: r) σ = ev 215 1173 [a0, a1, a2, a3] r σ := ev_go f_Law_law_33 rfl
theorem e_Law_law_33_29 (a0 a1 a2 a3 : AV) (σ : aM) (r : List AV) : ev 215 33 [a0, a1, a2, a3] (aI 29 :: r) σ = ev 215 1196 [a0, a1, a2, a3] r σ := ev_go f_Law_law_33 rfl
theorem e_Law_law_33_30 (a0 a1 a2 a3 : AV) (σ : aM) (r : List AV) : ev 215 33 [a0, a1, a2, a3] (aI 30 :: r) σ = ev 215 1229 [a0, a1, a2, a3] r σ := ev_go f_Law_law_33 rfl
theorem e_Law_law_33_31 (a0 a1 a2 a3 : AV) (σ : aM) (r : List AV) : ev 215 33 [a0, a1, a2, a3] (aI 31 :: r) σ = ev 215 1252 [a0, a1, a2, a3] r σ := ev_go f_Law_law_33 rfl
theorem e_Law_law_33_32 (a0 a1 a2 a3 : AV) (σ : aM) (r : List AV) : ev 215 33 [a0, a1, a2, a3] (aI 32 :: r) σ = ev 215 1275 [a0, a1, a2, a3] r σ := ev_go f_Law_law_33 rfl
theorem e_Law_law_33_33 (a0 a1 a2 a3 : AV) (σ : aM) (r : List AV) : ev 215 33 [a0, a1, a2, a3] (aI 33 :: r) σ = ev 215 1288 [a0, a1, a2, a3] r σ := ev_go f_Law_law_33 rfl
theorem e_Law_law_33_34 (a0 a1 a2 a3 : AV) (σ : aM) (r : List AV) : ev 215 33 [a0, a1, a2, a3] (aI 34 :: r) σ = ev 215 1301 [a0, a1, a2, a3] r σ := ev_go f_Law_law_33 rfl
theorem f_Law_law_188 : fetch 215 188 = some (.aload_n 1) := by decide +kernel
theorem e_Law_law_188 (a0 a2 a3 : AV) (σ : aM) (l1 : Option (Nat × Int)) (r : List AV)  : ev 215 188 [a0, aQ l1, a2, a3] (r) σ = ev 215 189 [a0, aQ l1, a2, a3] (aQ l1 :: r) σ := ev_go f_Law_law_188 rfl
theorem f_Law_law_189 : fetch 215 189 = some (.aload_n 0) := by decide +kernel
theorem e_Law_law_189 (a1 a2 a3 : AV) (σ : aM) (l0 : Option (Nat × Int)) (r : List AV)  : ev 215 189 [aQ l0, a1, a2, a3] (r) σ = ev 215 190 [aQ l0, a1, a2, a3] (aQ l0 :: r) σ := ev_go f_Law_law_189 rfl
theorem f_Law_law_190 : fetch 215 190 = some (.iload_n 3) := by decide +kernel
theorem e_Law_law_190 (a0 a1 a2 : AV) (σ : aM) (l3 : Int) (r : List AV)  : ev 215 190 [a0, a1, a2, aI l3] (r) σ = ev 215 191 [a0, a1, a2, aI l3] (aI l3 :: r) σ := ev_go f_Law_law_190 rfl
theorem f_Law_law_191 : fetch 215 191 = some (.iconst 1) := by decide +kernel
theorem e_Law_law_191 (a0 a1 a2 a3 : AV) (σ : aM) (r : List AV)  : ev 215 191 [a0, a1, a2, a3] (r) σ = ev 215 192 [a0, a1, a2, a3] (aI 1 :: r) σ := ev_go f_Law_law_191 rfl
theorem f_Law_law_192 : fetch 215 192 = some (.iadd) := by decide +kernel
theorem e_Law_law_192 (a0 a1 a2 a3 : AV) (σ : aM) (x z : Int) (r : List AV)  : ev 215 192 [a0, a1, a2, a3] (aI z :: aI x :: r) σ = ev 215 193 [a0, a1, a2, a3] (aI (wr (x + z)) :: r) σ := ev_go f_Law_law_192 rfl
theorem f_Law_law_193 : fetch 215 193 = some (.iaload) := by decide +kernel
theorem e_Law_law_193 (a0 a1 a2 a3 : AV) (σ : aM) (x : Int) (r : List AV) (h : 0 ≤ x ∧ x < gI σ 34 0 (-1)) : ev 215 193 [a0, a1, a2, a3] (aI x :: aR 34 0 :: r) σ = ev 215 194 [a0, a1, a2, a3] (aI (gI σ 34 0 x) :: r) σ := ev_ldS f_Law_law_193 rfl h
theorem f_Law_law_194 : fetch 215 194 = some (.aload_n 0) := by decide +kernel
theorem e_Law_law_194 (a1 a2 a3 : AV) (σ : aM) (l0 : Option (Nat × Int)) (r : List AV)  : ev 215 194 [aQ l0, a1, a2, a3] (r) σ = ev 215 195 [aQ l0, a1, a2, a3] (aQ l0 :: r) σ := ev_go f_Law_law_194 rfl
theorem f_Law_law_195 : fetch 215 195 = some (.iload_n 3) := by decide +kernel
theorem e_Law_law_195 (a0 a1 a2 : AV) (σ : aM) (l3 : Int) (r : List AV)  : ev 215 195 [a0, a1, a2, aI l3] (r) σ = ev 215 196 [a0, a1, a2, aI l3] (aI l3 :: r) σ := ev_go f_Law_law_195 rfl
theorem f_Law_law_196 : fetch 215 196 = some (.iconst 2) := by decide +kernel
theorem e_Law_law_196 (a0 a1 a2 a3 : AV) (σ : aM) (r : List AV)  : ev 215 196 [a0, a1, a2, a3] (r) σ = ev 215 197 [a0, a1, a2, a3] (aI 2 :: r) σ := ev_go f_Law_law_196 rfl
theorem f_Law_law_197 : fetch 215 197 = some (.iadd) := by decide +kernel
theorem e_Law_law_197 (a0 a1 a2 a3 : AV) (σ : aM) (x z : Int) (r : List AV)  : ev 215 197 [a0, a1, a2, a3] (aI z :: aI x :: r) σ = ev 215 198 [a0, a1, a2, a3] (aI (wr (x + z)) :: r) σ := ev_go f_Law_law_197 rfl
theorem f_Law_law_198 : fetch 215 198 = some (.iaload) := by decide +kernel
theorem e_Law_law_198 (a0 a1 a2 a3 : AV) (σ : aM) (x : Int) (r : List AV) (h : 0 ≤ x ∧ x < gI σ 34 0 (-1)) : ev 215 198 [a0, a1, a2, a3] (aI x :: aR 34 0 :: r) σ = ev 215 199 [a0, a1, a2, a3] (aI (gI σ 34 0 x) :: r) σ := ev_ldS f_Law_law_198 rfl h
theorem f_Law_law_199 : fetch 215 199 = some (.aload_n 0) := by decide +kernel
theorem e_Law_law_199 (a1 a2 a3 : AV) (σ : aM) (l0 : Option (Nat × Int)) (r : List AV)  : ev 215 199 [aQ l0, a1, a2, a3] (r) σ = ev 215 200 [aQ l0, a1, a2, a3] (aQ l0 :: r) σ := ev_go f_Law_law_199 rfl
theorem f_Law_law_200 : fetch 215 200 = some (.iload_n 3) := by decide +kernel
theorem e_Law_law_200 (a0 a1 a2 : AV) (σ : aM) (l3 : Int) (r : List AV)  : ev 215 200 [a0, a1, a2, aI l3] (r) σ = ev 215 201 [a0, a1, a2, aI l3] (aI l3 :: r) σ := ev_go f_Law_law_200 rfl
theorem f_Law_law_201 : fetch 215 201 = some (.iconst 3) := by decide +kernel
theorem e_Law_law_201 (a0 a1 a2 a3 : AV) (σ : aM) (r : List AV)  : ev 215 201 [a0, a1, a2, a3] (r) σ = ev 215 202 [a0, a1, a2, a3] (aI 3 :: r) σ := ev_go f_Law_law_201 rfl
theorem f_Law_law_202 : fetch 215 202 = some (.iadd) := by decide +kernel
theorem e_Law_law_202 (a0 a1 a2 a3 : AV) (σ : aM) (x z : Int) (r : List AV)  : ev 215 202 [a0, a1, a2, a3] (aI z :: aI x :: r) σ = ev 215 203 [a0, a1, a2, a3] (aI (wr (x + z)) :: r) σ := ev_go f_Law_law_202 rfl
theorem f_Law_law_203 : fetch 215 203 = some (.iaload) := by decide +kernel
theorem e_Law_law_203 (a0 a1 a2 a3 : AV) (σ : aM) (x : Int) (r : List AV) (h : 0 ≤ x ∧ x < gI σ 34 0 (-1)) : ev 215 203 [a0, a1, a2, a3] (aI x :: aR 34 0 :: r) σ = ev 215 204 [a0, a1, a2, a3] (aI (gI σ 34 0 x) :: r) σ := ev_ldS f_Law_law_203 rfl h
theorem f_Law_law_204 : fetch 215 204 = some (.invokevirtual 13) := by decide +kernel
theorem e_Law_law_204 (a0 a1 a2 a3 : AV) (σ : aM) (s0 : Int) (s1 : Int) (s2 : Int) (s3 : Int) : ev 215 204 [a0, a1, a2, a3] [aI s3, aI s2, aI s1, aR 0 s0] σ = evK 215 207 [a0, a1, a2, a3] [] (ev 78 0 [aR 0 s0, aI s1, aI s2, aI s3] [] σ) := ev_call f_Law_law_204 rfl rfl
theorem f_Law_law_207 : fetch 215 207 = some (.aload_n 2) := by decide +kernel
theorem e_Law_law_207 (a0 a1 a3 : AV) (σ : aM) (l2 : Option (Nat × Int)) (r : List AV)  : ev 215 207 [a0, a1, aQ l2, a3] (r) σ = ev 215 208 [a0, a1, aQ l2, a3] (aQ l2 :: r) σ := ev_go f_Law_law_207 rfl
theorem f_Law_law_208 : fetch 215 208 = some (.aload_n 0) := by decide +kernel
theorem e_Law_law_208 (a1 a2 a3 : AV) (σ : aM) (l0 : Option (Nat × Int)) (r : List AV)  : ev 215 208 [aQ l0, a1, a2, a3] (r) σ = ev 215 209 [aQ l0, a1, a2, a3] (aQ l0 :: r) σ := ev_go f_Law_law_208 rfl
theorem f_Law_law_209 : fetch 215 209 = some (.iload_n 3) := by decide +kernel
theorem e_Law_law_209 (a0 a1 a2 : AV) (σ : aM) (l3 : Int) (r : List AV)  : ev 215 209 [a0, a1, a2, aI l3] (r) σ = ev 215 210 [a0, a1, a2, aI l3] (aI l3 :: r) σ := ev_go f_Law_law_209 rfl
theorem f_Law_law_210 : fetch 215 210 = some (.iconst 1) := by decide +kernel
theorem e_Law_law_210 (a0 a1 a2 a3 : AV) (σ : aM) (r : List AV)  : ev 215 210 [a0, a1, a2, a3] (r) σ = ev 215 211 [a0, a1, a2, a3] (aI 1 :: r) σ := ev_go f_Law_law_210 rfl
theorem f_Law_law_211 : fetch 215 211 = some (.iadd) := by decide +kernel
theorem e_Law_law_211 (a0 a1 a2 a3 : AV) (σ : aM) (x z : Int) (r : List AV)  : ev 215 211 [a0, a1, a2, a3] (aI z :: aI x :: r) σ = ev 215 212 [a0, a1, a2, a3] (aI (wr (x + z)) :: r) σ := ev_go f_Law_law_211 rfl
theorem f_Law_law_212 : fetch 215 212 = some (.iaload) := by decide +kernel
theorem e_Law_law_212 (a0 a1 a2 a3 : AV) (σ : aM) (x : Int) (r : List AV) (h : 0 ≤ x ∧ x < gI σ 34 0 (-1)) : ev 215 212 [a0, a1, a2, a3] (aI x :: aR 34 0 :: r) σ = ev 215 213 [a0, a1, a2, a3] (aI (gI σ 34 0 x) :: r) σ := ev_ldS f_Law_law_212 rfl h
theorem f_Law_law_213 : fetch 215 213 = some (.aload_n 0) := by decide +kernel
theorem e_Law_law_213 (a1 a2 a3 : AV) (σ : aM) (l0 : Option (Nat × Int)) (r : List AV)  : ev 215 213 [aQ l0, a1, a2, a3] (r) σ = ev 215 214 [aQ l0, a1, a2, a3] (aQ l0 :: r) σ := ev_go f_Law_law_213 rfl
theorem f_Law_law_214 : fetch 215 214 = some (.iload_n 3) := by decide +kernel
theorem e_Law_law_214 (a0 a1 a2 : AV) (σ : aM) (l3 : Int) (r : List AV)  : ev 215 214 [a0, a1, a2, aI l3] (r) σ = ev 215 215 [a0, a1, a2, aI l3] (aI l3 :: r) σ := ev_go f_Law_law_214 rfl
theorem f_Law_law_215 : fetch 215 215 = some (.iconst 2) := by decide +kernel
theorem e_Law_law_215 (a0 a1 a2 a3 : AV) (σ : aM) (r : List AV)  : ev 215 215 [a0, a1, a2, a3] (r) σ = ev 215 216 [a0, a1, a2, a3] (aI 2 :: r) σ := ev_go f_Law_law_215 rfl
theorem f_Law_law_216 : fetch 215 216 = some (.iadd) := by decide +kernel
theorem e_Law_law_216 (a0 a1 a2 a3 : AV) (σ : aM) (x z : Int) (r : List AV)  : ev 215 216 [a0, a1, a2, a3] (aI z :: aI x :: r) σ = ev 215 217 [a0, a1, a2, a3] (aI (wr (x + z)) :: r) σ := ev_go f_Law_law_216 rfl
theorem f_Law_law_217 : fetch 215 217 = some (.iaload) := by decide +kernel
theorem e_Law_law_217 (a0 a1 a2 a3 : AV) (σ : aM) (x : Int) (r : List AV) (h : 0 ≤ x ∧ x < gI σ 34 0 (-1)) : ev 215 217 [a0, a1, a2, a3] (aI x :: aR 34 0 :: r) σ = ev 215 218 [a0, a1, a2, a3] (aI (gI σ 34 0 x) :: r) σ := ev_ldS f_Law_law_217 rfl h
theorem f_Law_law_218 : fetch 215 218 = some (.aload_n 0) := by decide +kernel
theorem e_Law_law_218 (a1 a2 a3 : AV) (σ : aM) (l0 : Option (Nat × Int)) (r : List AV)  : ev 215 218 [aQ l0, a1, a2, a3] (r) σ = ev 215 219 [aQ l0, a1, a2, a3] (aQ l0 :: r) σ := ev_go f_Law_law_218 rfl
theorem f_Law_law_219 : fetch 215 219 = some (.iload_n 3) := by decide +kernel
theorem e_Law_law_219 (a0 a1 a2 : AV) (σ : aM) (l3 : Int) (r : List AV)  : ev 215 219 [a0, a1, a2, aI l3] (r) σ = ev 215 220 [a0, a1, a2, aI l3] (aI l3 :: r) σ := ev_go f_Law_law_219 rfl
theorem f_Law_law_220 : fetch 215 220 = some (.iconst 3) := by decide +kernel
theorem e_Law_law_220 (a0 a1 a2 a3 : AV) (σ : aM) (r : List AV)  : ev 215 220 [a0, a1, a2, a3] (r) σ = ev 215 221 [a0, a1, a2, a3] (aI 3 :: r) σ := ev_go f_Law_law_220 rfl
theorem f_Law_law_221 : fetch 215 221 = some (.iadd) := by decide +kernel
theorem e_Law_law_221 (a0 a1 a2 a3 : AV) (σ : aM) (x z : Int) (r : List AV)  : ev 215 221 [a0, a1, a2, a3] (aI z :: aI x :: r) σ = ev 215 222 [a0, a1, a2, a3] (aI (wr (x + z)) :: r) σ := ev_go f_Law_law_221 rfl
theorem f_Law_law_222 : fetch 215 222 = some (.iaload) := by decide +kernel
theorem e_Law_law_222 (a0 a1 a2 a3 : AV) (σ : aM) (x : Int) (r : List AV) (h : 0 ≤ x ∧ x < gI σ 34 0 (-1)) : ev 215 222 [a0, a1, a2, a3] (aI x :: aR 34 0 :: r) σ = ev 215 223 [a0, a1, a2, a3] (aI (gI σ 34 0 x) :: r) σ := ev_ldS f_Law_law_222 rfl h
theorem f_Law_law_223 : fetch 215 223 = some (.invokevirtual 17) := by decide +kernel
theorem e_Law_law_223 (a0 a1 a2 a3 : AV) (σ : aM) (s0 : Int) (s1 : Int) (s2 : Int) (s3 : Int) (s4 : Int) : ev 215 223 [a0, a1, a2, a3] [aI s4, aI s3, aI s2, aR 25 s1, aI s0] σ = evK 215 226 [a0, a1, a2, a3] [aI s0] (ev 131 0 [aR 25 s1, aI s2, aI s3, aI s4, aU] [] σ) := ev_call f_Law_law_223 rfl rfl
theorem f_Law_law_226 : fetch 215 226 = some (.if_icmp .eq 1098) := by decide +kernel
theorem e_Law_law_226 (a0 a1 a2 a3 : AV) (σ : aM) (x z : Int) (r : List AV) : ev 215 226 [a0, a1, a2, a3] (aI z :: aI x :: r) σ = if x = z then ev 215 1324 [a0, a1, a2, a3] r σ else ev 215 229 [a0, a1, a2, a3] r σ := ev_br f_Law_law_226 rfl bc_eq
theorem f_Law_law_229 : fetch 215 229 = some (.iconst 0) := by decide +kernel
theorem e_Law_law_229 (a0 a1 a2 a3 : AV) (σ : aM) (r : List AV)  : ev 215 229 [a0, a1, a2, a3] (r) σ = ev 215 230 [a0, a1, a2, a3] (aI 0 :: r) σ := ev_go f_Law_law_229 rfl
theorem f_Law_law_230 : fetch 215 230 = some (.ireturn) := by decide +kernel
theorem e_Law_law_230 (a0 a1 a2 a3 : AV) (σ : aM) (x : Int) (h : x = 0 ∨ x = 1) : ev 215 230 [a0, a1, a2, a3] [aI x] σ = some ((some (aI x)), σ) := ev_rB f_Law_law_230 rfl h
theorem f_Law_law_231 : fetch 215 231 = some (.aload_n 1) := by decide +kernel
theorem e_Law_law_231 (a0 a2 a3 : AV) (σ : aM) (l1 : Option (Nat × Int)) (r : List AV)  : ev 215 231 [a0, aQ l1, a2, a3] (r) σ = ev 215 232 [a0, aQ l1, a2, a3] (aQ l1 :: r) σ := ev_go f_Law_law_231 rfl
theorem f_Law_law_232 : fetch 215 232 = some (.aload_n 0) := by decide +kernel
theorem e_Law_law_232 (a1 a2 a3 : AV) (σ : aM) (l0 : Option (Nat × Int)) (r : List AV)  : ev 215 232 [aQ l0, a1, a2, a3] (r) σ = ev 215 233 [aQ l0, a1, a2, a3] (aQ l0 :: r) σ := ev_go f_Law_law_232 rfl
theorem f_Law_law_233 : fetch 215 233 = some (.iload_n 3) := by decide +kernel
theorem e_Law_law_233 (a0 a1 a2 : AV) (σ : aM) (l3 : Int) (r : List AV)  : ev 215 233 [a0, a1, a2, aI l3] (r) σ = ev 215 234 [a0, a1, a2, aI l3] (aI l3 :: r) σ := ev_go f_Law_law_233 rfl
theorem f_Law_law_234 : fetch 215 234 = some (.iconst 1) := by decide +kernel
theorem e_Law_law_234 (a0 a1 a2 a3 : AV) (σ : aM) (r : List AV)  : ev 215 234 [a0, a1, a2, a3] (r) σ = ev 215 235 [a0, a1, a2, a3] (aI 1 :: r) σ := ev_go f_Law_law_234 rfl
theorem f_Law_law_235 : fetch 215 235 = some (.iadd) := by decide +kernel
theorem e_Law_law_235 (a0 a1 a2 a3 : AV) (σ : aM) (x z : Int) (r : List AV)  : ev 215 235 [a0, a1, a2, a3] (aI z :: aI x :: r) σ = ev 215 236 [a0, a1, a2, a3] (aI (wr (x + z)) :: r) σ := ev_go f_Law_law_235 rfl
theorem f_Law_law_236 : fetch 215 236 = some (.iaload) := by decide +kernel
theorem e_Law_law_236 (a0 a1 a2 a3 : AV) (σ : aM) (x : Int) (r : List AV) (h : 0 ≤ x ∧ x < gI σ 34 0 (-1)) : ev 215 236 [a0, a1, a2, a3] (aI x :: aR 34 0 :: r) σ = ev 215 237 [a0, a1, a2, a3] (aI (gI σ 34 0 x) :: r) σ := ev_ldS f_Law_law_236 rfl h
theorem f_Law_law_237 : fetch 215 237 = some (.aload_n 0) := by decide +kernel
theorem e_Law_law_237 (a1 a2 a3 : AV) (σ : aM) (l0 : Option (Nat × Int)) (r : List AV)  : ev 215 237 [aQ l0, a1, a2, a3] (r) σ = ev 215 238 [aQ l0, a1, a2, a3] (aQ l0 :: r) σ := ev_go f_Law_law_237 rfl
theorem f_Law_law_238 : fetch 215 238 = some (.iload_n 3) := by decide +kernel
theorem e_Law_law_238 (a0 a1 a2 : AV) (σ : aM) (l3 : Int) (r : List AV)  : ev 215 238 [a0, a1, a2, aI l3] (r) σ = ev 215 239 [a0, a1, a2, aI l3] (aI l3 :: r) σ := ev_go f_Law_law_238 rfl
theorem f_Law_law_239 : fetch 215 239 = some (.iconst 2) := by decide +kernel
theorem e_Law_law_239 (a0 a1 a2 a3 : AV) (σ : aM) (r : List AV)  : ev 215 239 [a0, a1, a2, a3] (r) σ = ev 215 240 [a0, a1, a2, a3] (aI 2 :: r) σ := ev_go f_Law_law_239 rfl
theorem f_Law_law_240 : fetch 215 240 = some (.iadd) := by decide +kernel
theorem e_Law_law_240 (a0 a1 a2 a3 : AV) (σ : aM) (x z : Int) (r : List AV)  : ev 215 240 [a0, a1, a2, a3] (aI z :: aI x :: r) σ = ev 215 241 [a0, a1, a2, a3] (aI (wr (x + z)) :: r) σ := ev_go f_Law_law_240 rfl
theorem f_Law_law_241 : fetch 215 241 = some (.iaload) := by decide +kernel
theorem e_Law_law_241 (a0 a1 a2 a3 : AV) (σ : aM) (x : Int) (r : List AV) (h : 0 ≤ x ∧ x < gI σ 34 0 (-1)) : ev 215 241 [a0, a1, a2, a3] (aI x :: aR 34 0 :: r) σ = ev 215 242 [a0, a1, a2, a3] (aI (gI σ 34 0 x) :: r) σ := ev_ldS f_Law_law_241 rfl h
theorem f_Law_law_242 : fetch 215 242 = some (.aload_n 0) := by decide +kernel
theorem e_Law_law_242 (a1 a2 a3 : AV) (σ : aM) (l0 : Option (Nat × Int)) (r : List AV)  : ev 215 242 [aQ l0, a1, a2, a3] (r) σ = ev 215 243 [aQ l0, a1, a2, a3] (aQ l0 :: r) σ := ev_go f_Law_law_242 rfl
theorem f_Law_law_243 : fetch 215 243 = some (.iload_n 3) := by decide +kernel
theorem e_Law_law_243 (a0 a1 a2 : AV) (σ : aM) (l3 : Int) (r : List AV)  : ev 215 243 [a0, a1, a2, aI l3] (r) σ = ev 215 244 [a0, a1, a2, aI l3] (aI l3 :: r) σ := ev_go f_Law_law_243 rfl
theorem f_Law_law_244 : fetch 215 244 = some (.iconst 3) := by decide +kernel
theorem e_Law_law_244 (a0 a1 a2 a3 : AV) (σ : aM) (r : List AV)  : ev 215 244 [a0, a1, a2, a3] (r) σ = ev 215 245 [a0, a1, a2, a3] (aI 3 :: r) σ := ev_go f_Law_law_244 rfl
theorem f_Law_law_245 : fetch 215 245 = some (.iadd) := by decide +kernel
theorem e_Law_law_245 (a0 a1 a2 a3 : AV) (σ : aM) (x z : Int) (r : List AV)  : ev 215 245 [a0, a1, a2, a3] (aI z :: aI x :: r) σ = ev 215 246 [a0, a1, a2, a3] (aI (wr (x + z)) :: r) σ := ev_go f_Law_law_245 rfl
theorem f_Law_law_246 : fetch 215 246 = some (.iaload) := by decide +kernel
theorem e_Law_law_246 (a0 a1 a2 a3 : AV) (σ : aM) (x : Int) (r : List AV) (h : 0 ≤ x ∧ x < gI σ 34 0 (-1)) : ev 215 246 [a0, a1, a2, a3] (aI x :: aR 34 0 :: r) σ = ev 215 247 [a0, a1, a2, a3] (aI (gI σ 34 0 x) :: r) σ := ev_ldS f_Law_law_246 rfl h
theorem f_Law_law_247 : fetch 215 247 = some (.i2l) := by decide +kernel
theorem e_Law_law_247 (a0 a1 a2 a3 : AV) (σ : aM) (x : Int) (r : List AV)  : ev 215 247 [a0, a1, a2, a3] (aI x :: r) σ = ev 215 248 [a0, a1, a2, a3] (aJ (toj x) :: r) σ := ev_go f_Law_law_247 rfl
theorem f_Law_law_248 : fetch 215 248 = some (.bipush 32) := by decide +kernel
theorem e_Law_law_248 (a0 a1 a2 a3 : AV) (σ : aM) (r : List AV)  : ev 215 248 [a0, a1, a2, a3] (r) σ = ev 215 250 [a0, a1, a2, a3] (aI 32 :: r) σ := ev_go f_Law_law_248 rfl
theorem f_Law_law_250 : fetch 215 250 = some (.lshl) := by decide +kernel
theorem e_Law_law_250 (a0 a1 a2 a3 : AV) (σ : aM) (x : Int64) (z : Int) (r : List AV)  : ev 215 250 [a0, a1, a2, a3] (aI z :: aJ x :: r) σ = ev 215 251 [a0, a1, a2, a3] (aJ (x <<< (toj z &&& 63)) :: r) σ := ev_go f_Law_law_250 rfl
theorem f_Law_law_251 : fetch 215 251 = some (.aload_n 0) := by decide +kernel
theorem e_Law_law_251 (a1 a2 a3 : AV) (σ : aM) (l0 : Option (Nat × Int)) (r : List AV)  : ev 215 251 [aQ l0, a1, a2, a3] (r) σ = ev 215 252 [aQ l0, a1, a2, a3] (aQ l0 :: r) σ := ev_go f_Law_law_251 rfl
theorem f_Law_law_252 : fetch 215 252 = some (.iload_n 3) := by decide +kernel
theorem e_Law_law_252 (a0 a1 a2 : AV) (σ : aM) (l3 : Int) (r : List AV)  : ev 215 252 [a0, a1, a2, aI l3] (r) σ = ev 215 253 [a0, a1, a2, aI l3] (aI l3 :: r) σ := ev_go f_Law_law_252 rfl
theorem f_Law_law_253 : fetch 215 253 = some (.iconst 4) := by decide +kernel
theorem e_Law_law_253 (a0 a1 a2 a3 : AV) (σ : aM) (r : List AV)  : ev 215 253 [a0, a1, a2, a3] (r) σ = ev 215 254 [a0, a1, a2, a3] (aI 4 :: r) σ := ev_go f_Law_law_253 rfl
theorem f_Law_law_254 : fetch 215 254 = some (.iadd) := by decide +kernel
theorem e_Law_law_254 (a0 a1 a2 a3 : AV) (σ : aM) (x z : Int) (r : List AV)  : ev 215 254 [a0, a1, a2, a3] (aI z :: aI x :: r) σ = ev 215 255 [a0, a1, a2, a3] (aI (wr (x + z)) :: r) σ := ev_go f_Law_law_254 rfl
theorem f_Law_law_255 : fetch 215 255 = some (.iaload) := by decide +kernel
theorem e_Law_law_255 (a0 a1 a2 a3 : AV) (σ : aM) (x : Int) (r : List AV) (h : 0 ≤ x ∧ x < gI σ 34 0 (-1)) : ev 215 255 [a0, a1, a2, a3] (aI x :: aR 34 0 :: r) σ = ev 215 256 [a0, a1, a2, a3] (aI (gI σ 34 0 x) :: r) σ := ev_ldS f_Law_law_255 rfl h
theorem f_Law_law_256 : fetch 215 256 = some (.i2l) := by decide +kernel
theorem e_Law_law_256 (a0 a1 a2 a3 : AV) (σ : aM) (x : Int) (r : List AV)  : ev 215 256 [a0, a1, a2, a3] (aI x :: r) σ = ev 215 257 [a0, a1, a2, a3] (aJ (toj x) :: r) σ := ev_go f_Law_law_256 rfl
theorem f_Law_law_257 : fetch 215 257 = some (.ldc2_w 18) := by decide +kernel
theorem e_Law_law_257 (a0 a1 a2 a3 : AV) (σ : aM) (r : List AV)  : ev 215 257 [a0, a1, a2, a3] (r) σ = ev 215 260 [a0, a1, a2, a3] (aJ 4294967295 :: r) σ := ev_go f_Law_law_257 rfl
theorem f_Law_law_260 : fetch 215 260 = some (.land) := by decide +kernel
theorem e_Law_law_260 (a0 a1 a2 a3 : AV) (σ : aM) (x z : Int64) (r : List AV)  : ev 215 260 [a0, a1, a2, a3] (aJ z :: aJ x :: r) σ = ev 215 261 [a0, a1, a2, a3] (aJ (x &&& z) :: r) σ := ev_go f_Law_law_260 rfl
theorem f_Law_law_261 : fetch 215 261 = some (.lor) := by decide +kernel
theorem e_Law_law_261 (a0 a1 a2 a3 : AV) (σ : aM) (x z : Int64) (r : List AV)  : ev 215 261 [a0, a1, a2, a3] (aJ z :: aJ x :: r) σ = ev 215 262 [a0, a1, a2, a3] (aJ (x ||| z) :: r) σ := ev_go f_Law_law_261 rfl
theorem f_Law_law_262 : fetch 215 262 = some (.invokevirtual 20) := by decide +kernel
theorem e_Law_law_262 (a0 a1 a2 a3 : AV) (σ : aM) (s0 : Int) (s1 : Int) (s2 : Int) (s3 : Int64) : ev 215 262 [a0, a1, a2, a3] [aJ s3, aI s2, aI s1, aR 0 s0] σ = evK 215 265 [a0, a1, a2, a3] [] (ev 79 0 [aR 0 s0, aI s1, aI s2, aJ s3, aU, aU] [] σ) := ev_call f_Law_law_262 rfl rfl
theorem f_Law_law_265 : fetch 215 265 = some (.aload_n 2) := by decide +kernel
theorem e_Law_law_265 (a0 a1 a3 : AV) (σ : aM) (l2 : Option (Nat × Int)) (r : List AV)  : ev 215 265 [a0, a1, aQ l2, a3] (r) σ = ev 215 266 [a0, a1, aQ l2, a3] (aQ l2 :: r) σ := ev_go f_Law_law_265 rfl
theorem f_Law_law_266 : fetch 215 266 = some (.aload_n 0) := by decide +kernel
theorem e_Law_law_266 (a1 a2 a3 : AV) (σ : aM) (l0 : Option (Nat × Int)) (r : List AV)  : ev 215 266 [aQ l0, a1, a2, a3] (r) σ = ev 215 267 [aQ l0, a1, a2, a3] (aQ l0 :: r) σ := ev_go f_Law_law_266 rfl
theorem f_Law_law_267 : fetch 215 267 = some (.iload_n 3) := by decide +kernel
theorem e_Law_law_267 (a0 a1 a2 : AV) (σ : aM) (l3 : Int) (r : List AV)  : ev 215 267 [a0, a1, a2, aI l3] (r) σ = ev 215 268 [a0, a1, a2, aI l3] (aI l3 :: r) σ := ev_go f_Law_law_267 rfl
theorem f_Law_law_268 : fetch 215 268 = some (.iconst 1) := by decide +kernel
theorem e_Law_law_268 (a0 a1 a2 a3 : AV) (σ : aM) (r : List AV)  : ev 215 268 [a0, a1, a2, a3] (r) σ = ev 215 269 [a0, a1, a2, a3] (aI 1 :: r) σ := ev_go f_Law_law_268 rfl
theorem f_Law_law_269 : fetch 215 269 = some (.iadd) := by decide +kernel
theorem e_Law_law_269 (a0 a1 a2 a3 : AV) (σ : aM) (x z : Int) (r : List AV)  : ev 215 269 [a0, a1, a2, a3] (aI z :: aI x :: r) σ = ev 215 270 [a0, a1, a2, a3] (aI (wr (x + z)) :: r) σ := ev_go f_Law_law_269 rfl
theorem f_Law_law_270 : fetch 215 270 = some (.iaload) := by decide +kernel
theorem e_Law_law_270 (a0 a1 a2 a3 : AV) (σ : aM) (x : Int) (r : List AV) (h : 0 ≤ x ∧ x < gI σ 34 0 (-1)) : ev 215 270 [a0, a1, a2, a3] (aI x :: aR 34 0 :: r) σ = ev 215 271 [a0, a1, a2, a3] (aI (gI σ 34 0 x) :: r) σ := ev_ldS f_Law_law_270 rfl h
theorem f_Law_law_271 : fetch 215 271 = some (.aload_n 0) := by decide +kernel
theorem e_Law_law_271 (a1 a2 a3 : AV) (σ : aM) (l0 : Option (Nat × Int)) (r : List AV)  : ev 215 271 [aQ l0, a1, a2, a3] (r) σ = ev 215 272 [aQ l0, a1, a2, a3] (aQ l0 :: r) σ := ev_go f_Law_law_271 rfl
theorem f_Law_law_272 : fetch 215 272 = some (.iload_n 3) := by decide +kernel
theorem e_Law_law_272 (a0 a1 a2 : AV) (σ : aM) (l3 : Int) (r : List AV)  : ev 215 272 [a0, a1, a2, aI l3] (r) σ = ev 215 273 [a0, a1, a2, aI l3] (aI l3 :: r) σ := ev_go f_Law_law_272 rfl
theorem f_Law_law_273 : fetch 215 273 = some (.iconst 2) := by decide +kernel
theorem e_Law_law_273 (a0 a1 a2 a3 : AV) (σ : aM) (r : List AV)  : ev 215 273 [a0, a1, a2, a3] (r) σ = ev 215 274 [a0, a1, a2, a3] (aI 2 :: r) σ := ev_go f_Law_law_273 rfl
theorem f_Law_law_274 : fetch 215 274 = some (.iadd) := by decide +kernel
theorem e_Law_law_274 (a0 a1 a2 a3 : AV) (σ : aM) (x z : Int) (r : List AV)  : ev 215 274 [a0, a1, a2, a3] (aI z :: aI x :: r) σ = ev 215 275 [a0, a1, a2, a3] (aI (wr (x + z)) :: r) σ := ev_go f_Law_law_274 rfl
theorem f_Law_law_275 : fetch 215 275 = some (.iaload) := by decide +kernel
theorem e_Law_law_275 (a0 a1 a2 a3 : AV) (σ : aM) (x : Int) (r : List AV) (h : 0 ≤ x ∧ x < gI σ 34 0 (-1)) : ev 215 275 [a0, a1, a2, a3] (aI x :: aR 34 0 :: r) σ = ev 215 276 [a0, a1, a2, a3] (aI (gI σ 34 0 x) :: r) σ := ev_ldS f_Law_law_275 rfl h
theorem f_Law_law_276 : fetch 215 276 = some (.aload_n 0) := by decide +kernel
theorem e_Law_law_276 (a1 a2 a3 : AV) (σ : aM) (l0 : Option (Nat × Int)) (r : List AV)  : ev 215 276 [aQ l0, a1, a2, a3] (r) σ = ev 215 277 [aQ l0, a1, a2, a3] (aQ l0 :: r) σ := ev_go f_Law_law_276 rfl
theorem f_Law_law_277 : fetch 215 277 = some (.iload_n 3) := by decide +kernel
theorem e_Law_law_277 (a0 a1 a2 : AV) (σ : aM) (l3 : Int) (r : List AV)  : ev 215 277 [a0, a1, a2, aI l3] (r) σ = ev 215 278 [a0, a1, a2, aI l3] (aI l3 :: r) σ := ev_go f_Law_law_277 rfl
theorem f_Law_law_278 : fetch 215 278 = some (.iconst 3) := by decide +kernel
theorem e_Law_law_278 (a0 a1 a2 a3 : AV) (σ : aM) (r : List AV)  : ev 215 278 [a0, a1, a2, a3] (r) σ = ev 215 279 [a0, a1, a2, a3] (aI 3 :: r) σ := ev_go f_Law_law_278 rfl
theorem f_Law_law_279 : fetch 215 279 = some (.iadd) := by decide +kernel
theorem e_Law_law_279 (a0 a1 a2 a3 : AV) (σ : aM) (x z : Int) (r : List AV)  : ev 215 279 [a0, a1, a2, a3] (aI z :: aI x :: r) σ = ev 215 280 [a0, a1, a2, a3] (aI (wr (x + z)) :: r) σ := ev_go f_Law_law_279 rfl
theorem f_Law_law_280 : fetch 215 280 = some (.iaload) := by decide +kernel
theorem e_Law_law_280 (a0 a1 a2 a3 : AV) (σ : aM) (x : Int) (r : List AV) (h : 0 ≤ x ∧ x < gI σ 34 0 (-1)) : ev 215 280 [a0, a1, a2, a3] (aI x :: aR 34 0 :: r) σ = ev 215 281 [a0, a1, a2, a3] (aI (gI σ 34 0 x) :: r) σ := ev_ldS f_Law_law_280 rfl h
theorem f_Law_law_281 : fetch 215 281 = some (.i2l) := by decide +kernel
theorem e_Law_law_281 (a0 a1 a2 a3 : AV) (σ : aM) (x : Int) (r : List AV)  : ev 215 281 [a0, a1, a2, a3] (aI x :: r) σ = ev 215 282 [a0, a1, a2, a3] (aJ (toj x) :: r) σ := ev_go f_Law_law_281 rfl
theorem f_Law_law_282 : fetch 215 282 = some (.bipush 32) := by decide +kernel
theorem e_Law_law_282 (a0 a1 a2 a3 : AV) (σ : aM) (r : List AV)  : ev 215 282 [a0, a1, a2, a3] (r) σ = ev 215 284 [a0, a1, a2, a3] (aI 32 :: r) σ := ev_go f_Law_law_282 rfl
theorem f_Law_law_284 : fetch 215 284 = some (.lshl) := by decide +kernel
theorem e_Law_law_284 (a0 a1 a2 a3 : AV) (σ : aM) (x : Int64) (z : Int) (r : List AV)  : ev 215 284 [a0, a1, a2, a3] (aI z :: aJ x :: r) σ = ev 215 285 [a0, a1, a2, a3] (aJ (x <<< (toj z &&& 63)) :: r) σ := ev_go f_Law_law_284 rfl
theorem f_Law_law_285 : fetch 215 285 = some (.aload_n 0) := by decide +kernel
theorem e_Law_law_285 (a1 a2 a3 : AV) (σ : aM) (l0 : Option (Nat × Int)) (r : List AV)  : ev 215 285 [aQ l0, a1, a2, a3] (r) σ = ev 215 286 [aQ l0, a1, a2, a3] (aQ l0 :: r) σ := ev_go f_Law_law_285 rfl
theorem f_Law_law_286 : fetch 215 286 = some (.iload_n 3) := by decide +kernel
theorem e_Law_law_286 (a0 a1 a2 : AV) (σ : aM) (l3 : Int) (r : List AV)  : ev 215 286 [a0, a1, a2, aI l3] (r) σ = ev 215 287 [a0, a1, a2, aI l3] (aI l3 :: r) σ := ev_go f_Law_law_286 rfl
theorem f_Law_law_287 : fetch 215 287 = some (.iconst 4) := by decide +kernel
theorem e_Law_law_287 (a0 a1 a2 a3 : AV) (σ : aM) (r : List AV)  : ev 215 287 [a0, a1, a2, a3] (r) σ = ev 215 288 [a0, a1, a2, a3] (aI 4 :: r) σ := ev_go f_Law_law_287 rfl
theorem f_Law_law_288 : fetch 215 288 = some (.iadd) := by decide +kernel
theorem e_Law_law_288 (a0 a1 a2 a3 : AV) (σ : aM) (x z : Int) (r : List AV)  : ev 215 288 [a0, a1, a2, a3] (aI z :: aI x :: r) σ = ev 215 289 [a0, a1, a2, a3] (aI (wr (x + z)) :: r) σ := ev_go f_Law_law_288 rfl
theorem f_Law_law_289 : fetch 215 289 = some (.iaload) := by decide +kernel
theorem e_Law_law_289 (a0 a1 a2 a3 : AV) (σ : aM) (x : Int) (r : List AV) (h : 0 ≤ x ∧ x < gI σ 34 0 (-1)) : ev 215 289 [a0, a1, a2, a3] (aI x :: aR 34 0 :: r) σ = ev 215 290 [a0, a1, a2, a3] (aI (gI σ 34 0 x) :: r) σ := ev_ldS f_Law_law_289 rfl h
theorem f_Law_law_290 : fetch 215 290 = some (.i2l) := by decide +kernel
theorem e_Law_law_290 (a0 a1 a2 a3 : AV) (σ : aM) (x : Int) (r : List AV)  : ev 215 290 [a0, a1, a2, a3] (aI x :: r) σ = ev 215 291 [a0, a1, a2, a3] (aJ (toj x) :: r) σ := ev_go f_Law_law_290 rfl
theorem f_Law_law_291 : fetch 215 291 = some (.ldc2_w 18) := by decide +kernel
theorem e_Law_law_291 (a0 a1 a2 a3 : AV) (σ : aM) (r : List AV)  : ev 215 291 [a0, a1, a2, a3] (r) σ = ev 215 294 [a0, a1, a2, a3] (aJ 4294967295 :: r) σ := ev_go f_Law_law_291 rfl
theorem f_Law_law_294 : fetch 215 294 = some (.land) := by decide +kernel
theorem e_Law_law_294 (a0 a1 a2 a3 : AV) (σ : aM) (x z : Int64) (r : List AV)  : ev 215 294 [a0, a1, a2, a3] (aJ z :: aJ x :: r) σ = ev 215 295 [a0, a1, a2, a3] (aJ (x &&& z) :: r) σ := ev_go f_Law_law_294 rfl
theorem f_Law_law_295 : fetch 215 295 = some (.lor) := by decide +kernel
theorem e_Law_law_295 (a0 a1 a2 a3 : AV) (σ : aM) (x z : Int64) (r : List AV)  : ev 215 295 [a0, a1, a2, a3] (aJ z :: aJ x :: r) σ = ev 215 296 [a0, a1, a2, a3] (aJ (x ||| z) :: r) σ := ev_go f_Law_law_295 rfl
theorem f_Law_law_296 : fetch 215 296 = some (.invokevirtual 24) := by decide +kernel
theorem e_Law_law_296 (a0 a1 a2 a3 : AV) (σ : aM) (s0 : Int) (s1 : Int) (s2 : Int) (s3 : Int) (s4 : Int64) : ev 215 296 [a0, a1, a2, a3] [aJ s4, aI s3, aI s2, aR 25 s1, aI s0] σ = evK 215 299 [a0, a1, a2, a3] [aI s0] (ev 133 0 [aR 25 s1, aI s2, aI s3, aJ s4, aU, aU] [] σ) := ev_call f_Law_law_296 rfl rfl
theorem f_Law_law_299 : fetch 215 299 = some (.if_icmp .eq 1025) := by decide +kernel
theorem e_Law_law_299 (a0 a1 a2 a3 : AV) (σ : aM) (x z : Int) (r : List AV) : ev 215 299 [a0, a1, a2, a3] (aI z :: aI x :: r) σ = if x = z then ev 215 1324 [a0, a1, a2, a3] r σ else ev 215 302 [a0, a1, a2, a3] r σ := ev_br f_Law_law_299 rfl bc_eq
theorem f_Law_law_302 : fetch 215 302 = some (.iconst 0) := by decide +kernel
theorem e_Law_law_302 (a0 a1 a2 a3 : AV) (σ : aM) (r : List AV)  : ev 215 302 [a0, a1, a2, a3] (r) σ = ev 215 303 [a0, a1, a2, a3] (aI 0 :: r) σ := ev_go f_Law_law_302 rfl
theorem f_Law_law_303 : fetch 215 303 = some (.ireturn) := by decide +kernel
theorem e_Law_law_303 (a0 a1 a2 a3 : AV) (σ : aM) (x : Int) (h : x = 0 ∨ x = 1) : ev 215 303 [a0, a1, a2, a3] [aI x] σ = some ((some (aI x)), σ) := ev_rB f_Law_law_303 rfl h
theorem f_Law_law_304 : fetch 215 304 = some (.aload_n 1) := by decide +kernel
theorem e_Law_law_304 (a0 a2 a3 : AV) (σ : aM) (l1 : Option (Nat × Int)) (r : List AV)  : ev 215 304 [a0, aQ l1, a2, a3] (r) σ = ev 215 305 [a0, aQ l1, a2, a3] (aQ l1 :: r) σ := ev_go f_Law_law_304 rfl
theorem f_Law_law_305 : fetch 215 305 = some (.aload_n 0) := by decide +kernel
theorem e_Law_law_305 (a1 a2 a3 : AV) (σ : aM) (l0 : Option (Nat × Int)) (r : List AV)  : ev 215 305 [aQ l0, a1, a2, a3] (r) σ = ev 215 306 [aQ l0, a1, a2, a3] (aQ l0 :: r) σ := ev_go f_Law_law_305 rfl
theorem f_Law_law_306 : fetch 215 306 = some (.iload_n 3) := by decide +kernel
theorem e_Law_law_306 (a0 a1 a2 : AV) (σ : aM) (l3 : Int) (r : List AV)  : ev 215 306 [a0, a1, a2, aI l3] (r) σ = ev 215 307 [a0, a1, a2, aI l3] (aI l3 :: r) σ := ev_go f_Law_law_306 rfl
theorem f_Law_law_307 : fetch 215 307 = some (.iconst 1) := by decide +kernel
theorem e_Law_law_307 (a0 a1 a2 a3 : AV) (σ : aM) (r : List AV)  : ev 215 307 [a0, a1, a2, a3] (r) σ = ev 215 308 [a0, a1, a2, a3] (aI 1 :: r) σ := ev_go f_Law_law_307 rfl
theorem f_Law_law_308 : fetch 215 308 = some (.iadd) := by decide +kernel
theorem e_Law_law_308 (a0 a1 a2 a3 : AV) (σ : aM) (x z : Int) (r : List AV)  : ev 215 308 [a0, a1, a2, a3] (aI z :: aI x :: r) σ = ev 215 309 [a0, a1, a2, a3] (aI (wr (x + z)) :: r) σ := ev_go f_Law_law_308 rfl
theorem f_Law_law_309 : fetch 215 309 = some (.iaload) := by decide +kernel
theorem e_Law_law_309 (a0 a1 a2 a3 : AV) (σ : aM) (x : Int) (r : List AV) (h : 0 ≤ x ∧ x < gI σ 34 0 (-1)) : ev 215 309 [a0, a1, a2, a3] (aI x :: aR 34 0 :: r) σ = ev 215 310 [a0, a1, a2, a3] (aI (gI σ 34 0 x) :: r) σ := ev_ldS f_Law_law_309 rfl h
theorem f_Law_law_310 : fetch 215 310 = some (.aload_n 0) := by decide +kernel
theorem e_Law_law_310 (a1 a2 a3 : AV) (σ : aM) (l0 : Option (Nat × Int)) (r : List AV)  : ev 215 310 [aQ l0, a1, a2, a3] (r) σ = ev 215 311 [aQ l0, a1, a2, a3] (aQ l0 :: r) σ := ev_go f_Law_law_310 rfl
theorem f_Law_law_311 : fetch 215 311 = some (.iload_n 3) := by decide +kernel
theorem e_Law_law_311 (a0 a1 a2 : AV) (σ : aM) (l3 : Int) (r : List AV)  : ev 215 311 [a0, a1, a2, aI l3] (r) σ = ev 215 312 [a0, a1, a2, aI l3] (aI l3 :: r) σ := ev_go f_Law_law_311 rfl
theorem f_Law_law_312 : fetch 215 312 = some (.iconst 2) := by decide +kernel
theorem e_Law_law_312 (a0 a1 a2 a3 : AV) (σ : aM) (r : List AV)  : ev 215 312 [a0, a1, a2, a3] (r) σ = ev 215 313 [a0, a1, a2, a3] (aI 2 :: r) σ := ev_go f_Law_law_312 rfl
theorem f_Law_law_313 : fetch 215 313 = some (.iadd) := by decide +kernel
theorem e_Law_law_313 (a0 a1 a2 a3 : AV) (σ : aM) (x z : Int) (r : List AV)  : ev 215 313 [a0, a1, a2, a3] (aI z :: aI x :: r) σ = ev 215 314 [a0, a1, a2, a3] (aI (wr (x + z)) :: r) σ := ev_go f_Law_law_313 rfl
theorem f_Law_law_314 : fetch 215 314 = some (.iaload) := by decide +kernel
theorem e_Law_law_314 (a0 a1 a2 a3 : AV) (σ : aM) (x : Int) (r : List AV) (h : 0 ≤ x ∧ x < gI σ 34 0 (-1)) : ev 215 314 [a0, a1, a2, a3] (aI x :: aR 34 0 :: r) σ = ev 215 315 [a0, a1, a2, a3] (aI (gI σ 34 0 x) :: r) σ := ev_ldS f_Law_law_314 rfl h
theorem f_Law_law_315 : fetch 215 315 = some (.aload_n 0) := by decide +kernel
theorem e_Law_law_315 (a1 a2 a3 : AV) (σ : aM) (l0 : Option (Nat × Int)) (r : List AV)  : ev 215 315 [aQ l0, a1, a2, a3] (r) σ = ev 215 316 [aQ l0, a1, a2, a3] (aQ l0 :: r) σ := ev_go f_Law_law_315 rfl
theorem f_Law_law_316 : fetch 215 316 = some (.iload_n 3) := by decide +kernel
theorem e_Law_law_316 (a0 a1 a2 : AV) (σ : aM) (l3 : Int) (r : List AV)  : ev 215 316 [a0, a1, a2, aI l3] (r) σ = ev 215 317 [a0, a1, a2, aI l3] (aI l3 :: r) σ := ev_go f_Law_law_316 rfl
theorem f_Law_law_317 : fetch 215 317 = some (.iconst 3) := by decide +kernel
theorem e_Law_law_317 (a0 a1 a2 a3 : AV) (σ : aM) (r : List AV)  : ev 215 317 [a0, a1, a2, a3] (r) σ = ev 215 318 [a0, a1, a2, a3] (aI 3 :: r) σ := ev_go f_Law_law_317 rfl
theorem f_Law_law_318 : fetch 215 318 = some (.iadd) := by decide +kernel
theorem e_Law_law_318 (a0 a1 a2 a3 : AV) (σ : aM) (x z : Int) (r : List AV)  : ev 215 318 [a0, a1, a2, a3] (aI z :: aI x :: r) σ = ev 215 319 [a0, a1, a2, a3] (aI (wr (x + z)) :: r) σ := ev_go f_Law_law_318 rfl
theorem f_Law_law_319 : fetch 215 319 = some (.iaload) := by decide +kernel
theorem e_Law_law_319 (a0 a1 a2 a3 : AV) (σ : aM) (x : Int) (r : List AV) (h : 0 ≤ x ∧ x < gI σ 34 0 (-1)) : ev 215 319 [a0, a1, a2, a3] (aI x :: aR 34 0 :: r) σ = ev 215 320 [a0, a1, a2, a3] (aI (gI σ 34 0 x) :: r) σ := ev_ldS f_Law_law_319 rfl h
theorem f_Law_law_320 : fetch 215 320 = some (.aload_n 0) := by decide +kernel
theorem e_Law_law_320 (a1 a2 a3 : AV) (σ : aM) (l0 : Option (Nat × Int)) (r : List AV)  : ev 215 320 [aQ l0, a1, a2, a3] (r) σ = ev 215 321 [aQ l0, a1, a2, a3] (aQ l0 :: r) σ := ev_go f_Law_law_320 rfl
theorem f_Law_law_321 : fetch 215 321 = some (.iload_n 3) := by decide +kernel
theorem e_Law_law_321 (a0 a1 a2 : AV) (σ : aM) (l3 : Int) (r : List AV)  : ev 215 321 [a0, a1, a2, aI l3] (r) σ = ev 215 322 [a0, a1, a2, aI l3] (aI l3 :: r) σ := ev_go f_Law_law_321 rfl
theorem f_Law_law_322 : fetch 215 322 = some (.iconst 4) := by decide +kernel
theorem e_Law_law_322 (a0 a1 a2 a3 : AV) (σ : aM) (r : List AV)  : ev 215 322 [a0, a1, a2, a3] (r) σ = ev 215 323 [a0, a1, a2, a3] (aI 4 :: r) σ := ev_go f_Law_law_322 rfl
theorem f_Law_law_323 : fetch 215 323 = some (.iadd) := by decide +kernel
theorem e_Law_law_323 (a0 a1 a2 a3 : AV) (σ : aM) (x z : Int) (r : List AV)  : ev 215 323 [a0, a1, a2, a3] (aI z :: aI x :: r) σ = ev 215 324 [a0, a1, a2, a3] (aI (wr (x + z)) :: r) σ := ev_go f_Law_law_323 rfl
theorem f_Law_law_324 : fetch 215 324 = some (.iaload) := by decide +kernel
theorem e_Law_law_324 (a0 a1 a2 a3 : AV) (σ : aM) (x : Int) (r : List AV) (h : 0 ≤ x ∧ x < gI σ 34 0 (-1)) : ev 215 324 [a0, a1, a2, a3] (aI x :: aR 34 0 :: r) σ = ev 215 325 [a0, a1, a2, a3] (aI (gI σ 34 0 x) :: r) σ := ev_ldS f_Law_law_324 rfl h
theorem f_Law_law_325 : fetch 215 325 = some (.aload_n 0) := by decide +kernel
theorem e_Law_law_325 (a1 a2 a3 : AV) (σ : aM) (l0 : Option (Nat × Int)) (r : List AV)  : ev 215 325 [aQ l0, a1, a2, a3] (r) σ = ev 215 326 [aQ l0, a1, a2, a3] (aQ l0 :: r) σ := ev_go f_Law_law_325 rfl
theorem f_Law_law_326 : fetch 215 326 = some (.iload_n 3) := by decide +kernel
theorem e_Law_law_326 (a0 a1 a2 : AV) (σ : aM) (l3 : Int) (r : List AV)  : ev 215 326 [a0, a1, a2, aI l3] (r) σ = ev 215 327 [a0, a1, a2, aI l3] (aI l3 :: r) σ := ev_go f_Law_law_326 rfl
theorem f_Law_law_327 : fetch 215 327 = some (.iconst 5) := by decide +kernel
theorem e_Law_law_327 (a0 a1 a2 a3 : AV) (σ : aM) (r : List AV)  : ev 215 327 [a0, a1, a2, a3] (r) σ = ev 215 328 [a0, a1, a2, a3] (aI 5 :: r) σ := ev_go f_Law_law_327 rfl
theorem f_Law_law_328 : fetch 215 328 = some (.iadd) := by decide +kernel
theorem e_Law_law_328 (a0 a1 a2 a3 : AV) (σ : aM) (x z : Int) (r : List AV)  : ev 215 328 [a0, a1, a2, a3] (aI z :: aI x :: r) σ = ev 215 329 [a0, a1, a2, a3] (aI (wr (x + z)) :: r) σ := ev_go f_Law_law_328 rfl
theorem f_Law_law_329 : fetch 215 329 = some (.iaload) := by decide +kernel
theorem e_Law_law_329 (a0 a1 a2 a3 : AV) (σ : aM) (x : Int) (r : List AV) (h : 0 ≤ x ∧ x < gI σ 34 0 (-1)) : ev 215 329 [a0, a1, a2, a3] (aI x :: aR 34 0 :: r) σ = ev 215 330 [a0, a1, a2, a3] (aI (gI σ 34 0 x) :: r) σ := ev_ldS f_Law_law_329 rfl h
theorem f_Law_law_330 : fetch 215 330 = some (.invokevirtual 25) := by decide +kernel
theorem e_Law_law_330 (a0 a1 a2 a3 : AV) (σ : aM) (s0 : Int) (s1 : Int) (s2 : Int) (s3 : Int) (s4 : Int) (s5 : Int) : ev 215 330 [a0, a1, a2, a3] [aI s5, aI s4, aI s3, aI s2, aI s1, aR 0 s0] σ = evK 215 333 [a0, a1, a2, a3] [] (ev 80 0 [aR 0 s0, aI s1, aI s2, aI s3, aI s4, aI s5, aU, aU] [] σ) := ev_call f_Law_law_330 rfl rfl
theorem f_Law_law_333 : fetch 215 333 = some (.aload_n 2) := by decide +kernel
theorem e_Law_law_333 (a0 a1 a3 : AV) (σ : aM) (l2 : Option (Nat × Int)) (r : List AV)  : ev 215 333 [a0, a1, aQ l2, a3] (r) σ = ev 215 334 [a0, a1, aQ l2, a3] (aQ l2 :: r) σ := ev_go f_Law_law_333 rfl
theorem f_Law_law_334 : fetch 215 334 = some (.aload_n 0) := by decide +kernel
theorem e_Law_law_334 (a1 a2 a3 : AV) (σ : aM) (l0 : Option (Nat × Int)) (r : List AV)  : ev 215 334 [aQ l0, a1, a2, a3] (r) σ = ev 215 335 [aQ l0, a1, a2, a3] (aQ l0 :: r) σ := ev_go f_Law_law_334 rfl
theorem f_Law_law_335 : fetch 215 335 = some (.iload_n 3) := by decide +kernel
theorem e_Law_law_335 (a0 a1 a2 : AV) (σ : aM) (l3 : Int) (r : List AV)  : ev 215 335 [a0, a1, a2, aI l3] (r) σ = ev 215 336 [a0, a1, a2, aI l3] (aI l3 :: r) σ := ev_go f_Law_law_335 rfl
theorem f_Law_law_336 : fetch 215 336 = some (.iconst 1) := by decide +kernel
theorem e_Law_law_336 (a0 a1 a2 a3 : AV) (σ : aM) (r : List AV)  : ev 215 336 [a0, a1, a2, a3] (r) σ = ev 215 337 [a0, a1, a2, a3] (aI 1 :: r) σ := ev_go f_Law_law_336 rfl
theorem f_Law_law_337 : fetch 215 337 = some (.iadd) := by decide +kernel
theorem e_Law_law_337 (a0 a1 a2 a3 : AV) (σ : aM) (x z : Int) (r : List AV)  : ev 215 337 [a0, a1, a2, a3] (aI z :: aI x :: r) σ = ev 215 338 [a0, a1, a2, a3] (aI (wr (x + z)) :: r) σ := ev_go f_Law_law_337 rfl
theorem f_Law_law_338 : fetch 215 338 = some (.iaload) := by decide +kernel
theorem e_Law_law_338 (a0 a1 a2 a3 : AV) (σ : aM) (x : Int) (r : List AV) (h : 0 ≤ x ∧ x < gI σ 34 0 (-1)) : ev 215 338 [a0, a1, a2, a3] (aI x :: aR 34 0 :: r) σ = ev 215 339 [a0, a1, a2, a3] (aI (gI σ 34 0 x) :: r) σ := ev_ldS f_Law_law_338 rfl h
theorem f_Law_law_339 : fetch 215 339 = some (.aload_n 0) := by decide +kernel
theorem e_Law_law_339 (a1 a2 a3 : AV) (σ : aM) (l0 : Option (Nat × Int)) (r : List AV)  : ev 215 339 [aQ l0, a1, a2, a3] (r) σ = ev 215 340 [aQ l0, a1, a2, a3] (aQ l0 :: r) σ := ev_go f_Law_law_339 rfl
theorem f_Law_law_340 : fetch 215 340 = some (.iload_n 3) := by decide +kernel
theorem e_Law_law_340 (a0 a1 a2 : AV) (σ : aM) (l3 : Int) (r : List AV)  : ev 215 340 [a0, a1, a2, aI l3] (r) σ = ev 215 341 [a0, a1, a2, aI l3] (aI l3 :: r) σ := ev_go f_Law_law_340 rfl
theorem f_Law_law_341 : fetch 215 341 = some (.iconst 2) := by decide +kernel
theorem e_Law_law_341 (a0 a1 a2 a3 : AV) (σ : aM) (r : List AV)  : ev 215 341 [a0, a1, a2, a3] (r) σ = ev 215 342 [a0, a1, a2, a3] (aI 2 :: r) σ := ev_go f_Law_law_341 rfl
theorem f_Law_law_342 : fetch 215 342 = some (.iadd) := by decide +kernel
theorem e_Law_law_342 (a0 a1 a2 a3 : AV) (σ : aM) (x z : Int) (r : List AV)  : ev 215 342 [a0, a1, a2, a3] (aI z :: aI x :: r) σ = ev 215 343 [a0, a1, a2, a3] (aI (wr (x + z)) :: r) σ := ev_go f_Law_law_342 rfl
theorem f_Law_law_343 : fetch 215 343 = some (.iaload) := by decide +kernel
theorem e_Law_law_343 (a0 a1 a2 a3 : AV) (σ : aM) (x : Int) (r : List AV) (h : 0 ≤ x ∧ x < gI σ 34 0 (-1)) : ev 215 343 [a0, a1, a2, a3] (aI x :: aR 34 0 :: r) σ = ev 215 344 [a0, a1, a2, a3] (aI (gI σ 34 0 x) :: r) σ := ev_ldS f_Law_law_343 rfl h
theorem f_Law_law_344 : fetch 215 344 = some (.aload_n 0) := by decide +kernel
theorem e_Law_law_344 (a1 a2 a3 : AV) (σ : aM) (l0 : Option (Nat × Int)) (r : List AV)  : ev 215 344 [aQ l0, a1, a2, a3] (r) σ = ev 215 345 [aQ l0, a1, a2, a3] (aQ l0 :: r) σ := ev_go f_Law_law_344 rfl
theorem f_Law_law_345 : fetch 215 345 = some (.iload_n 3) := by decide +kernel
theorem e_Law_law_345 (a0 a1 a2 : AV) (σ : aM) (l3 : Int) (r : List AV)  : ev 215 345 [a0, a1, a2, aI l3] (r) σ = ev 215 346 [a0, a1, a2, aI l3] (aI l3 :: r) σ := ev_go f_Law_law_345 rfl
theorem f_Law_law_346 : fetch 215 346 = some (.iconst 3) := by decide +kernel
theorem e_Law_law_346 (a0 a1 a2 a3 : AV) (σ : aM) (r : List AV)  : ev 215 346 [a0, a1, a2, a3] (r) σ = ev 215 347 [a0, a1, a2, a3] (aI 3 :: r) σ := ev_go f_Law_law_346 rfl
theorem f_Law_law_347 : fetch 215 347 = some (.iadd) := by decide +kernel
theorem e_Law_law_347 (a0 a1 a2 a3 : AV) (σ : aM) (x z : Int) (r : List AV)  : ev 215 347 [a0, a1, a2, a3] (aI z :: aI x :: r) σ = ev 215 348 [a0, a1, a2, a3] (aI (wr (x + z)) :: r) σ := ev_go f_Law_law_347 rfl
theorem f_Law_law_348 : fetch 215 348 = some (.iaload) := by decide +kernel
theorem e_Law_law_348 (a0 a1 a2 a3 : AV) (σ : aM) (x : Int) (r : List AV) (h : 0 ≤ x ∧ x < gI σ 34 0 (-1)) : ev 215 348 [a0, a1, a2, a3] (aI x :: aR 34 0 :: r) σ = ev 215 349 [a0, a1, a2, a3] (aI (gI σ 34 0 x) :: r) σ := ev_ldS f_Law_law_348 rfl h
theorem f_Law_law_349 : fetch 215 349 = some (.aload_n 0) := by decide +kernel
theorem e_Law_law_349 (a1 a2 a3 : AV) (σ : aM) (l0 : Option (Nat × Int)) (r : List AV)  : ev 215 349 [aQ l0, a1, a2, a3] (r) σ = ev 215 350 [aQ l0, a1, a2, a3] (aQ l0 :: r) σ := ev_go f_Law_law_349 rfl
theorem f_Law_law_350 : fetch 215 350 = some (.iload_n 3) := by decide +kernel
theorem e_Law_law_350 (a0 a1 a2 : AV) (σ : aM) (l3 : Int) (r : List AV)  : ev 215 350 [a0, a1, a2, aI l3] (r) σ = ev 215 351 [a0, a1, a2, aI l3] (aI l3 :: r) σ := ev_go f_Law_law_350 rfl
theorem f_Law_law_351 : fetch 215 351 = some (.iconst 4) := by decide +kernel
theorem e_Law_law_351 (a0 a1 a2 a3 : AV) (σ : aM) (r : List AV)  : ev 215 351 [a0, a1, a2, a3] (r) σ = ev 215 352 [a0, a1, a2, a3] (aI 4 :: r) σ := ev_go f_Law_law_351 rfl
theorem f_Law_law_352 : fetch 215 352 = some (.iadd) := by decide +kernel
theorem e_Law_law_352 (a0 a1 a2 a3 : AV) (σ : aM) (x z : Int) (r : List AV)  : ev 215 352 [a0, a1, a2, a3] (aI z :: aI x :: r) σ = ev 215 353 [a0, a1, a2, a3] (aI (wr (x + z)) :: r) σ := ev_go f_Law_law_352 rfl
theorem f_Law_law_353 : fetch 215 353 = some (.iaload) := by decide +kernel
theorem e_Law_law_353 (a0 a1 a2 a3 : AV) (σ : aM) (x : Int) (r : List AV) (h : 0 ≤ x ∧ x < gI σ 34 0 (-1)) : ev 215 353 [a0, a1, a2, a3] (aI x :: aR 34 0 :: r) σ = ev 215 354 [a0, a1, a2, a3] (aI (gI σ 34 0 x) :: r) σ := ev_ldS f_Law_law_353 rfl h
theorem f_Law_law_354 : fetch 215 354 = some (.aload_n 0) := by decide +kernel
theorem e_Law_law_354 (a1 a2 a3 : AV) (σ : aM) (l0 : Option (Nat × Int)) (r : List AV)  : ev 215 354 [aQ l0, a1, a2, a3] (r) σ = ev 215 355 [aQ l0, a1, a2, a3] (aQ l0 :: r) σ := ev_go f_Law_law_354 rfl
theorem f_Law_law_355 : fetch 215 355 = some (.iload_n 3) := by decide +kernel
theorem e_Law_law_355 (a0 a1 a2 : AV) (σ : aM) (l3 : Int) (r : List AV)  : ev 215 355 [a0, a1, a2, aI l3] (r) σ = ev 215 356 [a0, a1, a2, aI l3] (aI l3 :: r) σ := ev_go f_Law_law_355 rfl
theorem f_Law_law_356 : fetch 215 356 = some (.iconst 5) := by decide +kernel
theorem e_Law_law_356 (a0 a1 a2 a3 : AV) (σ : aM) (r : List AV)  : ev 215 356 [a0, a1, a2, a3] (r) σ = ev 215 357 [a0, a1, a2, a3] (aI 5 :: r) σ := ev_go f_Law_law_356 rfl
theorem f_Law_law_357 : fetch 215 357 = some (.iadd) := by decide +kernel
theorem e_Law_law_357 (a0 a1 a2 a3 : AV) (σ : aM) (x z : Int) (r : List AV)  : ev 215 357 [a0, a1, a2, a3] (aI z :: aI x :: r) σ = ev 215 358 [a0, a1, a2, a3] (aI (wr (x + z)) :: r) σ := ev_go f_Law_law_357 rfl
theorem f_Law_law_358 : fetch 215 358 = some (.iaload) := by decide +kernel
theorem e_Law_law_358 (a0 a1 a2 a3 : AV) (σ : aM) (x : Int) (r : List AV) (h : 0 ≤ x ∧ x < gI σ 34 0 (-1)) : ev 215 358 [a0, a1, a2, a3] (aI x :: aR 34 0 :: r) σ = ev 215 359 [a0, a1, a2, a3] (aI (gI σ 34 0 x) :: r) σ := ev_ldS f_Law_law_358 rfl h
theorem f_Law_law_359 : fetch 215 359 = some (.invokevirtual 29) := by decide +kernel
theorem e_Law_law_359 (a0 a1 a2 a3 : AV) (σ : aM) (s0 : Int) (s1 : Int) (s2 : Int) (s3 : Int) (s4 : Int) (s5 : Int) (s6 : Int) : ev 215 359 [a0, a1, a2, a3] [aI s6, aI s5, aI s4, aI s3, aI s2, aR 25 s1, aI s0] σ = evK 215 362 [a0, a1, a2, a3] [aI s0] (ev 134 0 [aR 25 s1, aI s2, aI s3, aI s4, aI s5, aI s6, aU, aU] [] σ) := ev_call f_Law_law_359 rfl rfl
theorem f_Law_law_362 : fetch 215 362 = some (.if_icmp .eq 962) := by decide +kernel
theorem e_Law_law_362 (a0 a1 a2 a3 : AV) (σ : aM) (x z : Int) (r : List AV) : ev 215 362 [a0, a1, a2, a3] (aI z :: aI x :: r) σ = if x = z then ev 215 1324 [a0, a1, a2, a3] r σ else ev 215 365 [a0, a1, a2, a3] r σ := ev_br f_Law_law_362 rfl bc_eq
theorem f_Law_law_365 : fetch 215 365 = some (.iconst 0) := by decide +kernel
theorem e_Law_law_365 (a0 a1 a2 a3 : AV) (σ : aM) (r : List AV)  : ev 215 365 [a0, a1, a2, a3] (r) σ = ev 215 366 [a0, a1, a2, a3] (aI 0 :: r) σ := ev_go f_Law_law_365 rfl
theorem f_Law_law_366 : fetch 215 366 = some (.ireturn) := by decide +kernel
theorem e_Law_law_366 (a0 a1 a2 a3 : AV) (σ : aM) (x : Int) (h : x = 0 ∨ x = 1) : ev 215 366 [a0, a1, a2, a3] [aI x] σ = some ((some (aI x)), σ) := ev_rB f_Law_law_366 rfl h
theorem f_Law_law_367 : fetch 215 367 = some (.aload_n 1) := by decide +kernel
theorem e_Law_law_367 (a0 a2 a3 : AV) (σ : aM) (l1 : Option (Nat × Int)) (r : List AV)  : ev 215 367 [a0, aQ l1, a2, a3] (r) σ = ev 215 368 [a0, aQ l1, a2, a3] (aQ l1 :: r) σ := ev_go f_Law_law_367 rfl
theorem f_Law_law_368 : fetch 215 368 = some (.aload_n 0) := by decide +kernel
theorem e_Law_law_368 (a1 a2 a3 : AV) (σ : aM) (l0 : Option (Nat × Int)) (r : List AV)  : ev 215 368 [aQ l0, a1, a2, a3] (r) σ = ev 215 369 [aQ l0, a1, a2, a3] (aQ l0 :: r) σ := ev_go f_Law_law_368 rfl
theorem f_Law_law_369 : fetch 215 369 = some (.iload_n 3) := by decide +kernel
theorem e_Law_law_369 (a0 a1 a2 : AV) (σ : aM) (l3 : Int) (r : List AV)  : ev 215 369 [a0, a1, a2, aI l3] (r) σ = ev 215 370 [a0, a1, a2, aI l3] (aI l3 :: r) σ := ev_go f_Law_law_369 rfl
theorem f_Law_law_370 : fetch 215 370 = some (.iconst 1) := by decide +kernel
theorem e_Law_law_370 (a0 a1 a2 a3 : AV) (σ : aM) (r : List AV)  : ev 215 370 [a0, a1, a2, a3] (r) σ = ev 215 371 [a0, a1, a2, a3] (aI 1 :: r) σ := ev_go f_Law_law_370 rfl
theorem f_Law_law_371 : fetch 215 371 = some (.iadd) := by decide +kernel
theorem e_Law_law_371 (a0 a1 a2 a3 : AV) (σ : aM) (x z : Int) (r : List AV)  : ev 215 371 [a0, a1, a2, a3] (aI z :: aI x :: r) σ = ev 215 372 [a0, a1, a2, a3] (aI (wr (x + z)) :: r) σ := ev_go f_Law_law_371 rfl
theorem f_Law_law_372 : fetch 215 372 = some (.iaload) := by decide +kernel
theorem e_Law_law_372 (a0 a1 a2 a3 : AV) (σ : aM) (x : Int) (r : List AV) (h : 0 ≤ x ∧ x < gI σ 34 0 (-1)) : ev 215 372 [a0, a1, a2, a3] (aI x :: aR 34 0 :: r) σ = ev 215 373 [a0, a1, a2, a3] (aI (gI σ 34 0 x) :: r) σ := ev_ldS f_Law_law_372 rfl h
theorem f_Law_law_373 : fetch 215 373 = some (.aload_n 0) := by decide +kernel
theorem e_Law_law_373 (a1 a2 a3 : AV) (σ : aM) (l0 : Option (Nat × Int)) (r : List AV)  : ev 215 373 [aQ l0, a1, a2, a3] (r) σ = ev 215 374 [aQ l0, a1, a2, a3] (aQ l0 :: r) σ := ev_go f_Law_law_373 rfl
theorem f_Law_law_374 : fetch 215 374 = some (.iload_n 3) := by decide +kernel
theorem e_Law_law_374 (a0 a1 a2 : AV) (σ : aM) (l3 : Int) (r : List AV)  : ev 215 374 [a0, a1, a2, aI l3] (r) σ = ev 215 375 [a0, a1, a2, aI l3] (aI l3 :: r) σ := ev_go f_Law_law_374 rfl
theorem f_Law_law_375 : fetch 215 375 = some (.iconst 2) := by decide +kernel
theorem e_Law_law_375 (a0 a1 a2 a3 : AV) (σ : aM) (r : List AV)  : ev 215 375 [a0, a1, a2, a3] (r) σ = ev 215 376 [a0, a1, a2, a3] (aI 2 :: r) σ := ev_go f_Law_law_375 rfl
theorem f_Law_law_376 : fetch 215 376 = some (.iadd) := by decide +kernel
theorem e_Law_law_376 (a0 a1 a2 a3 : AV) (σ : aM) (x z : Int) (r : List AV)  : ev 215 376 [a0, a1, a2, a3] (aI z :: aI x :: r) σ = ev 215 377 [a0, a1, a2, a3] (aI (wr (x + z)) :: r) σ := ev_go f_Law_law_376 rfl
theorem f_Law_law_377 : fetch 215 377 = some (.iaload) := by decide +kernel
theorem e_Law_law_377 (a0 a1 a2 a3 : AV) (σ : aM) (x : Int) (r : List AV) (h : 0 ≤ x ∧ x < gI σ 34 0 (-1)) : ev 215 377 [a0, a1, a2, a3] (aI x :: aR 34 0 :: r) σ = ev 215 378 [a0, a1, a2, a3] (aI (gI σ 34 0 x) :: r) σ := ev_ldS f_Law_law_377 rfl h
theorem f_Law_law_378 : fetch 215 378 = some (.invokevirtual 30) := by decide +kernel
theorem e_Law_law_378 (a0 a1 a2 a3 : AV) (σ : aM) (s0 : Int) (s1 : Int) (s2 : Int) : ev 215 378 [a0, a1, a2, a3] [aI s2, aI s1, aR 0 s0] σ = evK 215 381 [a0, a1, a2, a3] [] (ev 81 0 [aR 0 s0, aI s1, aI s2] [] σ) := ev_call f_Law_law_378 rfl rfl
theorem f_Law_law_381 : fetch 215 381 = some (.aload_n 2) := by decide +kernel
theorem e_Law_law_381 (a0 a1 a3 : AV) (σ : aM) (l2 : Option (Nat × Int)) (r : List AV)  : ev 215 381 [a0, a1, aQ l2, a3] (r) σ = ev 215 382 [a0, a1, aQ l2, a3] (aQ l2 :: r) σ := ev_go f_Law_law_381 rfl
theorem f_Law_law_382 : fetch 215 382 = some (.aload_n 0) := by decide +kernel
theorem e_Law_law_382 (a1 a2 a3 : AV) (σ : aM) (l0 : Option (Nat × Int)) (r : List AV)  : ev 215 382 [aQ l0, a1, a2, a3] (r) σ = ev 215 383 [aQ l0, a1, a2, a3] (aQ l0 :: r) σ := ev_go f_Law_law_382 rfl
theorem f_Law_law_383 : fetch 215 383 = some (.iload_n 3) := by decide +kernel
theorem e_Law_law_383 (a0 a1 a2 : AV) (σ : aM) (l3 : Int) (r : List AV)  : ev 215 383 [a0, a1, a2, aI l3] (r) σ = ev 215 384 [a0, a1, a2, aI l3] (aI l3 :: r) σ := ev_go f_Law_law_383 rfl
theorem f_Law_law_384 : fetch 215 384 = some (.iconst 1) := by decide +kernel
theorem e_Law_law_384 (a0 a1 a2 a3 : AV) (σ : aM) (r : List AV)  : ev 215 384 [a0, a1, a2, a3] (r) σ = ev 215 385 [a0, a1, a2, a3] (aI 1 :: r) σ := ev_go f_Law_law_384 rfl
theorem f_Law_law_385 : fetch 215 385 = some (.iadd) := by decide +kernel
theorem e_Law_law_385 (a0 a1 a2 a3 : AV) (σ : aM) (x z : Int) (r : List AV)  : ev 215 385 [a0, a1, a2, a3] (aI z :: aI x :: r) σ = ev 215 386 [a0, a1, a2, a3] (aI (wr (x + z)) :: r) σ := ev_go f_Law_law_385 rfl
theorem f_Law_law_386 : fetch 215 386 = some (.iaload) := by decide +kernel
theorem e_Law_law_386 (a0 a1 a2 a3 : AV) (σ : aM) (x : Int) (r : List AV) (h : 0 ≤ x ∧ x < gI σ 34 0 (-1)) : ev 215 386 [a0, a1, a2, a3] (aI x :: aR 34 0 :: r) σ = ev 215 387 [a0, a1, a2, a3] (aI (gI σ 34 0 x) :: r) σ := ev_ldS f_Law_law_386 rfl h
theorem f_Law_law_387 : fetch 215 387 = some (.aload_n 0) := by decide +kernel
theorem e_Law_law_387 (a1 a2 a3 : AV) (σ : aM) (l0 : Option (Nat × Int)) (r : List AV)  : ev 215 387 [aQ l0, a1, a2, a3] (r) σ = ev 215 388 [aQ l0, a1, a2, a3] (aQ l0 :: r) σ := ev_go f_Law_law_387 rfl
theorem f_Law_law_388 : fetch 215 388 = some (.iload_n 3) := by decide +kernel
theorem e_Law_law_388 (a0 a1 a2 : AV) (σ : aM) (l3 : Int) (r : List AV)  : ev 215 388 [a0, a1, a2, aI l3] (r) σ = ev 215 389 [a0, a1, a2, aI l3] (aI l3 :: r) σ := ev_go f_Law_law_388 rfl
theorem f_Law_law_389 : fetch 215 389 = some (.iconst 2) := by decide +kernel
theorem e_Law_law_389 (a0 a1 a2 a3 : AV) (σ : aM) (r : List AV)  : ev 215 389 [a0, a1, a2, a3] (r) σ = ev 215 390 [a0, a1, a2, a3] (aI 2 :: r) σ := ev_go f_Law_law_389 rfl
theorem f_Law_law_390 : fetch 215 390 = some (.iadd) := by decide +kernel
theorem e_Law_law_390 (a0 a1 a2 a3 : AV) (σ : aM) (x z : Int) (r : List AV)  : ev 215 390 [a0, a1, a2, a3] (aI z :: aI x :: r) σ = ev 215 391 [a0, a1, a2, a3] (aI (wr (x + z)) :: r) σ := ev_go f_Law_law_390 rfl
theorem f_Law_law_391 : fetch 215 391 = some (.iaload) := by decide +kernel
theorem e_Law_law_391 (a0 a1 a2 a3 : AV) (σ : aM) (x : Int) (r : List AV) (h : 0 ≤ x ∧ x < gI σ 34 0 (-1)) : ev 215 391 [a0, a1, a2, a3] (aI x :: aR 34 0 :: r) σ = ev 215 392 [a0, a1, a2, a3] (aI (gI σ 34 0 x) :: r) σ := ev_ldS f_Law_law_391 rfl h
theorem f_Law_law_392 : fetch 215 392 = some (.invokevirtual 34) := by decide +kernel
theorem e_Law_law_392 (a0 a1 a2 a3 : AV) (σ : aM) (s0 : Int64) (s1 : Int) (s2 : Int) (s3 : Int) : ev 215 392 [a0, a1, a2, a3] [aI s3, aI s2, aR 25 s1, aJ s0] σ = evK 215 395 [a0, a1, a2, a3] [aJ s0] (ev 136 0 [aR 25 s1, aI s2, aI s3] [] σ) := ev_call f_Law_law_392 rfl rfl
theorem f_Law_law_395 : fetch 215 395 = some (.lcmp) := by decide +kernel
theorem e_Law_law_395 (a0 a1 a2 a3 : AV) (σ : aM) (x z : Int64) (r : List AV)  : ev 215 395 [a0, a1, a2, a3] (aJ z :: aJ x :: r) σ = ev 215 396 [a0, a1, a2, a3] (aI (lg_cmp x z).toInt :: r) σ := ev_go f_Law_law_395 rfl
theorem f_Law_law_396 : fetch 215 396 = some (.ifCond .eq 928) := by decide +kernel
theorem e_Law_law_396 (a0 a1 a2 a3 : AV) (σ : aM) (x : Int) (r : List AV) : ev 215 396 [a0, a1, a2, a3] (aI x :: r) σ = if x = 0 then ev 215 1324 [a0, a1, a2, a3] r σ else ev 215 399 [a0, a1, a2, a3] r σ := ev_br f_Law_law_396 rfl bc_eq
theorem f_Law_law_399 : fetch 215 399 = some (.iconst 0) := by decide +kernel
theorem e_Law_law_399 (a0 a1 a2 a3 : AV) (σ : aM) (r : List AV)  : ev 215 399 [a0, a1, a2, a3] (r) σ = ev 215 400 [a0, a1, a2, a3] (aI 0 :: r) σ := ev_go f_Law_law_399 rfl
theorem f_Law_law_400 : fetch 215 400 = some (.ireturn) := by decide +kernel
theorem e_Law_law_400 (a0 a1 a2 a3 : AV) (σ : aM) (x : Int) (h : x = 0 ∨ x = 1) : ev 215 400 [a0, a1, a2, a3] [aI x] σ = some ((some (aI x)), σ) := ev_rB f_Law_law_400 rfl h
theorem f_Law_law_401 : fetch 215 401 = some (.aload_n 1) := by decide +kernel
theorem e_Law_law_401 (a0 a2 a3 : AV) (σ : aM) (l1 : Option (Nat × Int)) (r : List AV)  : ev 215 401 [a0, aQ l1, a2, a3] (r) σ = ev 215 402 [a0, aQ l1, a2, a3] (aQ l1 :: r) σ := ev_go f_Law_law_401 rfl
theorem f_Law_law_402 : fetch 215 402 = some (.aload_n 0) := by decide +kernel
theorem e_Law_law_402 (a1 a2 a3 : AV) (σ : aM) (l0 : Option (Nat × Int)) (r : List AV)  : ev 215 402 [aQ l0, a1, a2, a3] (r) σ = ev 215 403 [aQ l0, a1, a2, a3] (aQ l0 :: r) σ := ev_go f_Law_law_402 rfl
theorem f_Law_law_403 : fetch 215 403 = some (.iload_n 3) := by decide +kernel
theorem e_Law_law_403 (a0 a1 a2 : AV) (σ : aM) (l3 : Int) (r : List AV)  : ev 215 403 [a0, a1, a2, aI l3] (r) σ = ev 215 404 [a0, a1, a2, aI l3] (aI l3 :: r) σ := ev_go f_Law_law_403 rfl
theorem f_Law_law_404 : fetch 215 404 = some (.iconst 1) := by decide +kernel
theorem e_Law_law_404 (a0 a1 a2 a3 : AV) (σ : aM) (r : List AV)  : ev 215 404 [a0, a1, a2, a3] (r) σ = ev 215 405 [a0, a1, a2, a3] (aI 1 :: r) σ := ev_go f_Law_law_404 rfl
theorem f_Law_law_405 : fetch 215 405 = some (.iadd) := by decide +kernel
theorem e_Law_law_405 (a0 a1 a2 a3 : AV) (σ : aM) (x z : Int) (r : List AV)  : ev 215 405 [a0, a1, a2, a3] (aI z :: aI x :: r) σ = ev 215 406 [a0, a1, a2, a3] (aI (wr (x + z)) :: r) σ := ev_go f_Law_law_405 rfl
theorem f_Law_law_406 : fetch 215 406 = some (.iaload) := by decide +kernel
theorem e_Law_law_406 (a0 a1 a2 a3 : AV) (σ : aM) (x : Int) (r : List AV) (h : 0 ≤ x ∧ x < gI σ 34 0 (-1)) : ev 215 406 [a0, a1, a2, a3] (aI x :: aR 34 0 :: r) σ = ev 215 407 [a0, a1, a2, a3] (aI (gI σ 34 0 x) :: r) σ := ev_ldS f_Law_law_406 rfl h
theorem f_Law_law_407 : fetch 215 407 = some (.aload_n 0) := by decide +kernel
theorem e_Law_law_407 (a1 a2 a3 : AV) (σ : aM) (l0 : Option (Nat × Int)) (r : List AV)  : ev 215 407 [aQ l0, a1, a2, a3] (r) σ = ev 215 408 [aQ l0, a1, a2, a3] (aQ l0 :: r) σ := ev_go f_Law_law_407 rfl
theorem f_Law_law_408 : fetch 215 408 = some (.iload_n 3) := by decide +kernel
theorem e_Law_law_408 (a0 a1 a2 : AV) (σ : aM) (l3 : Int) (r : List AV)  : ev 215 408 [a0, a1, a2, aI l3] (r) σ = ev 215 409 [a0, a1, a2, aI l3] (aI l3 :: r) σ := ev_go f_Law_law_408 rfl
theorem f_Law_law_409 : fetch 215 409 = some (.iconst 2) := by decide +kernel
theorem e_Law_law_409 (a0 a1 a2 a3 : AV) (σ : aM) (r : List AV)  : ev 215 409 [a0, a1, a2, a3] (r) σ = ev 215 410 [a0, a1, a2, a3] (aI 2 :: r) σ := ev_go f_Law_law_409 rfl
theorem f_Law_law_410 : fetch 215 410 = some (.iadd) := by decide +kernel
theorem e_Law_law_410 (a0 a1 a2 a3 : AV) (σ : aM) (x z : Int) (r : List AV)  : ev 215 410 [a0, a1, a2, a3] (aI z :: aI x :: r) σ = ev 215 411 [a0, a1, a2, a3] (aI (wr (x + z)) :: r) σ := ev_go f_Law_law_410 rfl
theorem f_Law_law_411 : fetch 215 411 = some (.iaload) := by decide +kernel
theorem e_Law_law_411 (a0 a1 a2 a3 : AV) (σ : aM) (x : Int) (r : List AV) (h : 0 ≤ x ∧ x < gI σ 34 0 (-1)) : ev 215 411 [a0, a1, a2, a3] (aI x :: aR 34 0 :: r) σ = ev 215 412 [a0, a1, a2, a3] (aI (gI σ 34 0 x) :: r) σ := ev_ldS f_Law_law_411 rfl h
theorem f_Law_law_412 : fetch 215 412 = some (.invokevirtual 35) := by decide +kernel
theorem e_Law_law_412 (a0 a1 a2 a3 : AV) (σ : aM) (s0 : Int) (s1 : Int) (s2 : Int) : ev 215 412 [a0, a1, a2, a3] [aI s2, aI s1, aR 0 s0] σ = evK 215 415 [a0, a1, a2, a3] [] (ev 82 0 [aR 0 s0, aI s1, aI s2] [] σ) := ev_call f_Law_law_412 rfl rfl
theorem f_Law_law_415 : fetch 215 415 = some (.aload_n 2) := by decide +kernel
theorem e_Law_law_415 (a0 a1 a3 : AV) (σ : aM) (l2 : Option (Nat × Int)) (r : List AV)  : ev 215 415 [a0, a1, aQ l2, a3] (r) σ = ev 215 416 [a0, a1, aQ l2, a3] (aQ l2 :: r) σ := ev_go f_Law_law_415 rfl
theorem f_Law_law_416 : fetch 215 416 = some (.aload_n 0) := by decide +kernel
theorem e_Law_law_416 (a1 a2 a3 : AV) (σ : aM) (l0 : Option (Nat × Int)) (r : List AV)  : ev 215 416 [aQ l0, a1, a2, a3] (r) σ = ev 215 417 [aQ l0, a1, a2, a3] (aQ l0 :: r) σ := ev_go f_Law_law_416 rfl
theorem f_Law_law_417 : fetch 215 417 = some (.iload_n 3) := by decide +kernel
theorem e_Law_law_417 (a0 a1 a2 : AV) (σ : aM) (l3 : Int) (r : List AV)  : ev 215 417 [a0, a1, a2, aI l3] (r) σ = ev 215 418 [a0, a1, a2, aI l3] (aI l3 :: r) σ := ev_go f_Law_law_417 rfl
theorem f_Law_law_418 : fetch 215 418 = some (.iconst 1) := by decide +kernel
theorem e_Law_law_418 (a0 a1 a2 a3 : AV) (σ : aM) (r : List AV)  : ev 215 418 [a0, a1, a2, a3] (r) σ = ev 215 419 [a0, a1, a2, a3] (aI 1 :: r) σ := ev_go f_Law_law_418 rfl
theorem f_Law_law_419 : fetch 215 419 = some (.iadd) := by decide +kernel
theorem e_Law_law_419 (a0 a1 a2 a3 : AV) (σ : aM) (x z : Int) (r : List AV)  : ev 215 419 [a0, a1, a2, a3] (aI z :: aI x :: r) σ = ev 215 420 [a0, a1, a2, a3] (aI (wr (x + z)) :: r) σ := ev_go f_Law_law_419 rfl
theorem f_Law_law_420 : fetch 215 420 = some (.iaload) := by decide +kernel
theorem e_Law_law_420 (a0 a1 a2 a3 : AV) (σ : aM) (x : Int) (r : List AV) (h : 0 ≤ x ∧ x < gI σ 34 0 (-1)) : ev 215 420 [a0, a1, a2, a3] (aI x :: aR 34 0 :: r) σ = ev 215 421 [a0, a1, a2, a3] (aI (gI σ 34 0 x) :: r) σ := ev_ldS f_Law_law_420 rfl h
theorem f_Law_law_421 : fetch 215 421 = some (.aload_n 0) := by decide +kernel
theorem e_Law_law_421 (a1 a2 a3 : AV) (σ : aM) (l0 : Option (Nat × Int)) (r : List AV)  : ev 215 421 [aQ l0, a1, a2, a3] (r) σ = ev 215 422 [aQ l0, a1, a2, a3] (aQ l0 :: r) σ := ev_go f_Law_law_421 rfl
theorem f_Law_law_422 : fetch 215 422 = some (.iload_n 3) := by decide +kernel
theorem e_Law_law_422 (a0 a1 a2 : AV) (σ : aM) (l3 : Int) (r : List AV)  : ev 215 422 [a0, a1, a2, aI l3] (r) σ = ev 215 423 [a0, a1, a2, aI l3] (aI l3 :: r) σ := ev_go f_Law_law_422 rfl
theorem f_Law_law_423 : fetch 215 423 = some (.iconst 2) := by decide +kernel
theorem e_Law_law_423 (a0 a1 a2 a3 : AV) (σ : aM) (r : List AV)  : ev 215 423 [a0, a1, a2, a3] (r) σ = ev 215 424 [a0, a1, a2, a3] (aI 2 :: r) σ := ev_go f_Law_law_423 rfl
theorem f_Law_law_424 : fetch 215 424 = some (.iadd) := by decide +kernel
theorem e_Law_law_424 (a0 a1 a2 a3 : AV) (σ : aM) (x z : Int) (r : List AV)  : ev 215 424 [a0, a1, a2, a3] (aI z :: aI x :: r) σ = ev 215 425 [a0, a1, a2, a3] (aI (wr (x + z)) :: r) σ := ev_go f_Law_law_424 rfl
theorem f_Law_law_425 : fetch 215 425 = some (.iaload) := by decide +kernel
theorem e_Law_law_425 (a0 a1 a2 a3 : AV) (σ : aM) (x : Int) (r : List AV) (h : 0 ≤ x ∧ x < gI σ 34 0 (-1)) : ev 215 425 [a0, a1, a2, a3] (aI x :: aR 34 0 :: r) σ = ev 215 426 [a0, a1, a2, a3] (aI (gI σ 34 0 x) :: r) σ := ev_ldS f_Law_law_425 rfl h
theorem f_Law_law_426 : fetch 215 426 = some (.invokevirtual 39) := by decide +kernel
theorem e_Law_law_426 (a0 a1 a2 a3 : AV) (σ : aM) (s0 : Int) (s1 : Int) (s2 : Int) (s3 : Int) : ev 215 426 [a0, a1, a2, a3] [aI s3, aI s2, aR 25 s1, aI s0] σ = evK 215 429 [a0, a1, a2, a3] [aI s0] (ev 137 0 [aR 25 s1, aI s2, aI s3] [] σ) := ev_call f_Law_law_426 rfl rfl
theorem f_Law_law_429 : fetch 215 429 = some (.if_icmp .eq 895) := by decide +kernel
theorem e_Law_law_429 (a0 a1 a2 a3 : AV) (σ : aM) (x z : Int) (r : List AV) : ev 215 429 [a0, a1, a2, a3] (aI z :: aI x :: r) σ = if x = z then ev 215 1324 [a0, a1, a2, a3] r σ else ev 215 432 [a0, a1, a2, a3] r σ := ev_br f_Law_law_429 rfl bc_eq
theorem f_Law_law_432 : fetch 215 432 = some (.iconst 0) := by decide +kernel
theorem e_Law_law_432 (a0 a1 a2 a3 : AV) (σ : aM) (r : List AV)  : ev 215 432 [a0, a1, a2, a3] (r) σ = ev 215 433 [a0, a1, a2, a3] (aI 0 :: r) σ := ev_go f_Law_law_432 rfl
theorem f_Law_law_433 : fetch 215 433 = some (.ireturn) := by decide +kernel
theorem e_Law_law_433 (a0 a1 a2 a3 : AV) (σ : aM) (x : Int) (h : x = 0 ∨ x = 1) : ev 215 433 [a0, a1, a2, a3] [aI x] σ = some ((some (aI x)), σ) := ev_rB f_Law_law_433 rfl h
theorem f_Law_law_434 : fetch 215 434 = some (.aload_n 1) := by decide +kernel
theorem e_Law_law_434 (a0 a2 a3 : AV) (σ : aM) (l1 : Option (Nat × Int)) (r : List AV)  : ev 215 434 [a0, aQ l1, a2, a3] (r) σ = ev 215 435 [a0, aQ l1, a2, a3] (aQ l1 :: r) σ := ev_go f_Law_law_434 rfl
theorem f_Law_law_435 : fetch 215 435 = some (.aload_n 0) := by decide +kernel
theorem e_Law_law_435 (a1 a2 a3 : AV) (σ : aM) (l0 : Option (Nat × Int)) (r : List AV)  : ev 215 435 [aQ l0, a1, a2, a3] (r) σ = ev 215 436 [aQ l0, a1, a2, a3] (aQ l0 :: r) σ := ev_go f_Law_law_435 rfl
theorem f_Law_law_436 : fetch 215 436 = some (.iload_n 3) := by decide +kernel
theorem e_Law_law_436 (a0 a1 a2 : AV) (σ : aM) (l3 : Int) (r : List AV)  : ev 215 436 [a0, a1, a2, aI l3] (r) σ = ev 215 437 [a0, a1, a2, aI l3] (aI l3 :: r) σ := ev_go f_Law_law_436 rfl
theorem f_Law_law_437 : fetch 215 437 = some (.iconst 1) := by decide +kernel
theorem e_Law_law_437 (a0 a1 a2 a3 : AV) (σ : aM) (r : List AV)  : ev 215 437 [a0, a1, a2, a3] (r) σ = ev 215 438 [a0, a1, a2, a3] (aI 1 :: r) σ := ev_go f_Law_law_437 rfl
theorem f_Law_law_438 : fetch 215 438 = some (.iadd) := by decide +kernel
theorem e_Law_law_438 (a0 a1 a2 a3 : AV) (σ : aM) (x z : Int) (r : List AV)  : ev 215 438 [a0, a1, a2, a3] (aI z :: aI x :: r) σ = ev 215 439 [a0, a1, a2, a3] (aI (wr (x + z)) :: r) σ := ev_go f_Law_law_438 rfl
theorem f_Law_law_439 : fetch 215 439 = some (.iaload) := by decide +kernel
theorem e_Law_law_439 (a0 a1 a2 a3 : AV) (σ : aM) (x : Int) (r : List AV) (h : 0 ≤ x ∧ x < gI σ 34 0 (-1)) : ev 215 439 [a0, a1, a2, a3] (aI x :: aR 34 0 :: r) σ = ev 215 440 [a0, a1, a2, a3] (aI (gI σ 34 0 x) :: r) σ := ev_ldS f_Law_law_439 rfl h
theorem f_Law_law_440 : fetch 215 440 = some (.invokevirtual 40) := by decide +kernel
theorem e_Law_law_440 (a0 a1 a2 a3 : AV) (σ : aM) (s0 : Int) (s1 : Int) : ev 215 440 [a0, a1, a2, a3] [aI s1, aR 0 s0] σ = evK 215 443 [a0, a1, a2, a3] [] (ev 83 0 [aR 0 s0, aI s1, aU] [] σ) := ev_call f_Law_law_440 rfl rfl
theorem f_Law_law_443 : fetch 215 443 = some (.aload_n 2) := by decide +kernel
theorem e_Law_law_443 (a0 a1 a3 : AV) (σ : aM) (l2 : Option (Nat × Int)) (r : List AV)  : ev 215 443 [a0, a1, aQ l2, a3] (r) σ = ev 215 444 [a0, a1, aQ l2, a3] (aQ l2 :: r) σ := ev_go f_Law_law_443 rfl
theorem f_Law_law_444 : fetch 215 444 = some (.aload_n 0) := by decide +kernel
theorem e_Law_law_444 (a1 a2 a3 : AV) (σ : aM) (l0 : Option (Nat × Int)) (r : List AV)  : ev 215 444 [aQ l0, a1, a2, a3] (r) σ = ev 215 445 [aQ l0, a1, a2, a3] (aQ l0 :: r) σ := ev_go f_Law_law_444 rfl
theorem f_Law_law_445 : fetch 215 445 = some (.iload_n 3) := by decide +kernel
theorem e_Law_law_445 (a0 a1 a2 : AV) (σ : aM) (l3 : Int) (r : List AV)  : ev 215 445 [a0, a1, a2, aI l3] (r) σ = ev 215 446 [a0, a1, a2, aI l3] (aI l3 :: r) σ := ev_go f_Law_law_445 rfl
theorem f_Law_law_446 : fetch 215 446 = some (.iconst 1) := by decide +kernel
theorem e_Law_law_446 (a0 a1 a2 a3 : AV) (σ : aM) (r : List AV)  : ev 215 446 [a0, a1, a2, a3] (r) σ = ev 215 447 [a0, a1, a2, a3] (aI 1 :: r) σ := ev_go f_Law_law_446 rfl
theorem f_Law_law_447 : fetch 215 447 = some (.iadd) := by decide +kernel
theorem e_Law_law_447 (a0 a1 a2 a3 : AV) (σ : aM) (x z : Int) (r : List AV)  : ev 215 447 [a0, a1, a2, a3] (aI z :: aI x :: r) σ = ev 215 448 [a0, a1, a2, a3] (aI (wr (x + z)) :: r) σ := ev_go f_Law_law_447 rfl
theorem f_Law_law_448 : fetch 215 448 = some (.iaload) := by decide +kernel
theorem e_Law_law_448 (a0 a1 a2 a3 : AV) (σ : aM) (x : Int) (r : List AV) (h : 0 ≤ x ∧ x < gI σ 34 0 (-1)) : ev 215 448 [a0, a1, a2, a3] (aI x :: aR 34 0 :: r) σ = ev 215 449 [a0, a1, a2, a3] (aI (gI σ 34 0 x) :: r) σ := ev_ldS f_Law_law_448 rfl h
theorem f_Law_law_449 : fetch 215 449 = some (.invokevirtual 44) := by decide +kernel
theorem e_Law_law_449 (a0 a1 a2 a3 : AV) (σ : aM) (s0 : Int) (s1 : Int) (s2 : Int) : ev 215 449 [a0, a1, a2, a3] [aI s2, aR 25 s1, aI s0] σ = evK 215 452 [a0, a1, a2, a3] [aI s0] (ev 138 0 [aR 25 s1, aI s2] [] σ) := ev_call f_Law_law_449 rfl rfl
theorem f_Law_law_452 : fetch 215 452 = some (.if_icmp .eq 872) := by decide +kernel
theorem e_Law_law_452 (a0 a1 a2 a3 : AV) (σ : aM) (x z : Int) (r : List AV) : ev 215 452 [a0, a1, a2, a3] (aI z :: aI x :: r) σ = if x = z then ev 215 1324 [a0, a1, a2, a3] r σ else ev 215 455 [a0, a1, a2, a3] r σ := ev_br f_Law_law_452 rfl bc_eq
theorem f_Law_law_455 : fetch 215 455 = some (.iconst 0) := by decide +kernel
theorem e_Law_law_455 (a0 a1 a2 a3 : AV) (σ : aM) (r : List AV)  : ev 215 455 [a0, a1, a2, a3] (r) σ = ev 215 456 [a0, a1, a2, a3] (aI 0 :: r) σ := ev_go f_Law_law_455 rfl
theorem f_Law_law_456 : fetch 215 456 = some (.ireturn) := by decide +kernel
theorem e_Law_law_456 (a0 a1 a2 a3 : AV) (σ : aM) (x : Int) (h : x = 0 ∨ x = 1) : ev 215 456 [a0, a1, a2, a3] [aI x] σ = some ((some (aI x)), σ) := ev_rB f_Law_law_456 rfl h
theorem f_Law_law_457 : fetch 215 457 = some (.aload_n 1) := by decide +kernel
theorem e_Law_law_457 (a0 a2 a3 : AV) (σ : aM) (l1 : Option (Nat × Int)) (r : List AV)  : ev 215 457 [a0, aQ l1, a2, a3] (r) σ = ev 215 458 [a0, aQ l1, a2, a3] (aQ l1 :: r) σ := ev_go f_Law_law_457 rfl
theorem f_Law_law_458 : fetch 215 458 = some (.aload_n 0) := by decide +kernel
theorem e_Law_law_458 (a1 a2 a3 : AV) (σ : aM) (l0 : Option (Nat × Int)) (r : List AV)  : ev 215 458 [aQ l0, a1, a2, a3] (r) σ = ev 215 459 [aQ l0, a1, a2, a3] (aQ l0 :: r) σ := ev_go f_Law_law_458 rfl
theorem f_Law_law_459 : fetch 215 459 = some (.iload_n 3) := by decide +kernel
theorem e_Law_law_459 (a0 a1 a2 : AV) (σ : aM) (l3 : Int) (r : List AV)  : ev 215 459 [a0, a1, a2, aI l3] (r) σ = ev 215 460 [a0, a1, a2, aI l3] (aI l3 :: r) σ := ev_go f_Law_law_459 rfl
theorem f_Law_law_460 : fetch 215 460 = some (.iconst 1) := by decide +kernel
theorem e_Law_law_460 (a0 a1 a2 a3 : AV) (σ : aM) (r : List AV)  : ev 215 460 [a0, a1, a2, a3] (r) σ = ev 215 461 [a0, a1, a2, a3] (aI 1 :: r) σ := ev_go f_Law_law_460 rfl
theorem f_Law_law_461 : fetch 215 461 = some (.iadd) := by decide +kernel
theorem e_Law_law_461 (a0 a1 a2 a3 : AV) (σ : aM) (x z : Int) (r : List AV)  : ev 215 461 [a0, a1, a2, a3] (aI z :: aI x :: r) σ = ev 215 462 [a0, a1, a2, a3] (aI (wr (x + z)) :: r) σ := ev_go f_Law_law_461 rfl
theorem f_Law_law_462 : fetch 215 462 = some (.iaload) := by decide +kernel
theorem e_Law_law_462 (a0 a1 a2 a3 : AV) (σ : aM) (x : Int) (r : List AV) (h : 0 ≤ x ∧ x < gI σ 34 0 (-1)) : ev 215 462 [a0, a1, a2, a3] (aI x :: aR 34 0 :: r) σ = ev 215 463 [a0, a1, a2, a3] (aI (gI σ 34 0 x) :: r) σ := ev_ldS f_Law_law_462 rfl h
theorem f_Law_law_463 : fetch 215 463 = some (.aload_n 0) := by decide +kernel
theorem e_Law_law_463 (a1 a2 a3 : AV) (σ : aM) (l0 : Option (Nat × Int)) (r : List AV)  : ev 215 463 [aQ l0, a1, a2, a3] (r) σ = ev 215 464 [aQ l0, a1, a2, a3] (aQ l0 :: r) σ := ev_go f_Law_law_463 rfl
theorem f_Law_law_464 : fetch 215 464 = some (.iload_n 3) := by decide +kernel
theorem e_Law_law_464 (a0 a1 a2 : AV) (σ : aM) (l3 : Int) (r : List AV)  : ev 215 464 [a0, a1, a2, aI l3] (r) σ = ev 215 465 [a0, a1, a2, aI l3] (aI l3 :: r) σ := ev_go f_Law_law_464 rfl
theorem f_Law_law_465 : fetch 215 465 = some (.iconst 2) := by decide +kernel
theorem e_Law_law_465 (a0 a1 a2 a3 : AV) (σ : aM) (r : List AV)  : ev 215 465 [a0, a1, a2, a3] (r) σ = ev 215 466 [a0, a1, a2, a3] (aI 2 :: r) σ := ev_go f_Law_law_465 rfl
theorem f_Law_law_466 : fetch 215 466 = some (.iadd) := by decide +kernel
theorem e_Law_law_466 (a0 a1 a2 a3 : AV) (σ : aM) (x z : Int) (r : List AV)  : ev 215 466 [a0, a1, a2, a3] (aI z :: aI x :: r) σ = ev 215 467 [a0, a1, a2, a3] (aI (wr (x + z)) :: r) σ := ev_go f_Law_law_466 rfl
theorem f_Law_law_467 : fetch 215 467 = some (.iaload) := by decide +kernel
theorem e_Law_law_467 (a0 a1 a2 a3 : AV) (σ : aM) (x : Int) (r : List AV) (h : 0 ≤ x ∧ x < gI σ 34 0 (-1)) : ev 215 467 [a0, a1, a2, a3] (aI x :: aR 34 0 :: r) σ = ev 215 468 [a0, a1, a2, a3] (aI (gI σ 34 0 x) :: r) σ := ev_ldS f_Law_law_467 rfl h
theorem f_Law_law_468 : fetch 215 468 = some (.invokevirtual 45) := by decide +kernel
theorem e_Law_law_468 (a0 a1 a2 a3 : AV) (σ : aM) (s0 : Int) (s1 : Int) (s2 : Int) : ev 215 468 [a0, a1, a2, a3] [aI s2, aI s1, aR 0 s0] σ = evK 215 471 [a0, a1, a2, a3] [] (ev 84 0 [aR 0 s0, aI s1, aI s2, aU] [] σ) := ev_call f_Law_law_468 rfl rfl
theorem f_Law_law_471 : fetch 215 471 = some (.aload_n 2) := by decide +kernel
theorem e_Law_law_471 (a0 a1 a3 : AV) (σ : aM) (l2 : Option (Nat × Int)) (r : List AV)  : ev 215 471 [a0, a1, aQ l2, a3] (r) σ = ev 215 472 [a0, a1, aQ l2, a3] (aQ l2 :: r) σ := ev_go f_Law_law_471 rfl
theorem f_Law_law_472 : fetch 215 472 = some (.aload_n 0) := by decide +kernel
theorem e_Law_law_472 (a1 a2 a3 : AV) (σ : aM) (l0 : Option (Nat × Int)) (r : List AV)  : ev 215 472 [aQ l0, a1, a2, a3] (r) σ = ev 215 473 [aQ l0, a1, a2, a3] (aQ l0 :: r) σ := ev_go f_Law_law_472 rfl
theorem f_Law_law_473 : fetch 215 473 = some (.iload_n 3) := by decide +kernel
theorem e_Law_law_473 (a0 a1 a2 : AV) (σ : aM) (l3 : Int) (r : List AV)  : ev 215 473 [a0, a1, a2, aI l3] (r) σ = ev 215 474 [a0, a1, a2, aI l3] (aI l3 :: r) σ := ev_go f_Law_law_473 rfl
theorem f_Law_law_474 : fetch 215 474 = some (.iconst 1) := by decide +kernel
theorem e_Law_law_474 (a0 a1 a2 a3 : AV) (σ : aM) (r : List AV)  : ev 215 474 [a0, a1, a2, a3] (r) σ = ev 215 475 [a0, a1, a2, a3] (aI 1 :: r) σ := ev_go f_Law_law_474 rfl
theorem f_Law_law_475 : fetch 215 475 = some (.iadd) := by decide +kernel
theorem e_Law_law_475 (a0 a1 a2 a3 : AV) (σ : aM) (x z : Int) (r : List AV)  : ev 215 475 [a0, a1, a2, a3] (aI z :: aI x :: r) σ = ev 215 476 [a0, a1, a2, a3] (aI (wr (x + z)) :: r) σ := ev_go f_Law_law_475 rfl
theorem f_Law_law_476 : fetch 215 476 = some (.iaload) := by decide +kernel
theorem e_Law_law_476 (a0 a1 a2 a3 : AV) (σ : aM) (x : Int) (r : List AV) (h : 0 ≤ x ∧ x < gI σ 34 0 (-1)) : ev 215 476 [a0, a1, a2, a3] (aI x :: aR 34 0 :: r) σ = ev 215 477 [a0, a1, a2, a3] (aI (gI σ 34 0 x) :: r) σ := ev_ldS f_Law_law_476 rfl h
theorem f_Law_law_477 : fetch 215 477 = some (.aload_n 0) := by decide +kernel
theorem e_Law_law_477 (a1 a2 a3 : AV) (σ : aM) (l0 : Option (Nat × Int)) (r : List AV)  : ev 215 477 [aQ l0, a1, a2, a3] (r) σ = ev 215 478 [aQ l0, a1, a2, a3] (aQ l0 :: r) σ := ev_go f_Law_law_477 rfl
theorem f_Law_law_478 : fetch 215 478 = some (.iload_n 3) := by decide +kernel
theorem e_Law_law_478 (a0 a1 a2 : AV) (σ : aM) (l3 : Int) (r : List AV)  : ev 215 478 [a0, a1, a2, aI l3] (r) σ = ev 215 479 [a0, a1, a2, aI l3] (aI l3 :: r) σ := ev_go f_Law_law_478 rfl
theorem f_Law_law_479 : fetch 215 479 = some (.iconst 2) := by decide +kernel
theorem e_Law_law_479 (a0 a1 a2 a3 : AV) (σ : aM) (r : List AV)  : ev 215 479 [a0, a1, a2, a3] (r) σ = ev 215 480 [a0, a1, a2, a3] (aI 2 :: r) σ := ev_go f_Law_law_479 rfl
theorem f_Law_law_480 : fetch 215 480 = some (.iadd) := by decide +kernel
theorem e_Law_law_480 (a0 a1 a2 a3 : AV) (σ : aM) (x z : Int) (r : List AV)  : ev 215 480 [a0, a1, a2, a3] (aI z :: aI x :: r) σ = ev 215 481 [a0, a1, a2, a3] (aI (wr (x + z)) :: r) σ := ev_go f_Law_law_480 rfl
theorem f_Law_law_481 : fetch 215 481 = some (.iaload) := by decide +kernel
theorem e_Law_law_481 (a0 a1 a2 a3 : AV) (σ : aM) (x : Int) (r : List AV) (h : 0 ≤ x ∧ x < gI σ 34 0 (-1)) : ev 215 481 [a0, a1, a2, a3] (aI x :: aR 34 0 :: r) σ = ev 215 482 [a0, a1, a2, a3] (aI (gI σ 34 0 x) :: r) σ := ev_ldS f_Law_law_481 rfl h
theorem f_Law_law_482 : fetch 215 482 = some (.invokevirtual 48) := by decide +kernel
theorem e_Law_law_482 (a0 a1 a2 a3 : AV) (σ : aM) (s0 : Int) (s1 : Int) (s2 : Int) (s3 : Int) : ev 215 482 [a0, a1, a2, a3] [aI s3, aI s2, aR 25 s1, aI s0] σ = evK 215 485 [a0, a1, a2, a3] [aI s0] (ev 192 0 [aR 25 s1, aI s2, aI s3, aU, aU, aU] [] σ) := ev_call f_Law_law_482 rfl rfl
theorem f_Law_law_485 : fetch 215 485 = some (.if_icmp .eq 839) := by decide +kernel
theorem e_Law_law_485 (a0 a1 a2 a3 : AV) (σ : aM) (x z : Int) (r : List AV) : ev 215 485 [a0, a1, a2, a3] (aI z :: aI x :: r) σ = if x = z then ev 215 1324 [a0, a1, a2, a3] r σ else ev 215 488 [a0, a1, a2, a3] r σ := ev_br f_Law_law_485 rfl bc_eq
theorem f_Law_law_488 : fetch 215 488 = some (.iconst 0) := by decide +kernel
theorem e_Law_law_488 (a0 a1 a2 a3 : AV) (σ : aM) (r : List AV)  : ev 215 488 [a0, a1, a2, a3] (r) σ = ev 215 489 [a0, a1, a2, a3] (aI 0 :: r) σ := ev_go f_Law_law_488 rfl
theorem f_Law_law_489 : fetch 215 489 = some (.ireturn) := by decide +kernel
theorem e_Law_law_489 (a0 a1 a2 a3 : AV) (σ : aM) (x : Int) (h : x = 0 ∨ x = 1) : ev 215 489 [a0, a1, a2, a3] [aI x] σ = some ((some (aI x)), σ) := ev_rB f_Law_law_489 rfl h
theorem f_Law_law_490 : fetch 215 490 = some (.aload_n 1) := by decide +kernel
theorem e_Law_law_490 (a0 a2 a3 : AV) (σ : aM) (l1 : Option (Nat × Int)) (r : List AV)  : ev 215 490 [a0, aQ l1, a2, a3] (r) σ = ev 215 491 [a0, aQ l1, a2, a3] (aQ l1 :: r) σ := ev_go f_Law_law_490 rfl
theorem f_Law_law_491 : fetch 215 491 = some (.aload_n 0) := by decide +kernel
theorem e_Law_law_491 (a1 a2 a3 : AV) (σ : aM) (l0 : Option (Nat × Int)) (r : List AV)  : ev 215 491 [aQ l0, a1, a2, a3] (r) σ = ev 215 492 [aQ l0, a1, a2, a3] (aQ l0 :: r) σ := ev_go f_Law_law_491 rfl
theorem f_Law_law_492 : fetch 215 492 = some (.iload_n 3) := by decide +kernel
theorem e_Law_law_492 (a0 a1 a2 : AV) (σ : aM) (l3 : Int) (r : List AV)  : ev 215 492 [a0, a1, a2, aI l3] (r) σ = ev 215 493 [a0, a1, a2, aI l3] (aI l3 :: r) σ := ev_go f_Law_law_492 rfl
theorem f_Law_law_493 : fetch 215 493 = some (.iconst 1) := by decide +kernel
theorem e_Law_law_493 (a0 a1 a2 a3 : AV) (σ : aM) (r : List AV)  : ev 215 493 [a0, a1, a2, a3] (r) σ = ev 215 494 [a0, a1, a2, a3] (aI 1 :: r) σ := ev_go f_Law_law_493 rfl
theorem f_Law_law_494 : fetch 215 494 = some (.iadd) := by decide +kernel
theorem e_Law_law_494 (a0 a1 a2 a3 : AV) (σ : aM) (x z : Int) (r : List AV)  : ev 215 494 [a0, a1, a2, a3] (aI z :: aI x :: r) σ = ev 215 495 [a0, a1, a2, a3] (aI (wr (x + z)) :: r) σ := ev_go f_Law_law_494 rfl
theorem f_Law_law_495 : fetch 215 495 = some (.iaload) := by decide +kernel
theorem e_Law_law_495 (a0 a1 a2 a3 : AV) (σ : aM) (x : Int) (r : List AV) (h : 0 ≤ x ∧ x < gI σ 34 0 (-1)) : ev 215 495 [a0, a1, a2, a3] (aI x :: aR 34 0 :: r) σ = ev 215 496 [a0, a1, a2, a3] (aI (gI σ 34 0 x) :: r) σ := ev_ldS f_Law_law_495 rfl h
theorem f_Law_law_496 : fetch 215 496 = some (.aload_n 0) := by decide +kernel
theorem e_Law_law_496 (a1 a2 a3 : AV) (σ : aM) (l0 : Option (Nat × Int)) (r : List AV)  : ev 215 496 [aQ l0, a1, a2, a3] (r) σ = ev 215 497 [aQ l0, a1, a2, a3] (aQ l0 :: r) σ := ev_go f_Law_law_496 rfl
theorem f_Law_law_497 : fetch 215 497 = some (.iload_n 3) := by decide +kernel
theorem e_Law_law_497 (a0 a1 a2 : AV) (σ : aM) (l3 : Int) (r : List AV)  : ev 215 497 [a0, a1, a2, aI l3] (r) σ = ev 215 498 [a0, a1, a2, aI l3] (aI l3 :: r) σ := ev_go f_Law_law_497 rfl
theorem f_Law_law_498 : fetch 215 498 = some (.iconst 2) := by decide +kernel
theorem e_Law_law_498 (a0 a1 a2 a3 : AV) (σ : aM) (r : List AV)  : ev 215 498 [a0, a1, a2, a3] (r) σ = ev 215 499 [a0, a1, a2, a3] (aI 2 :: r) σ := ev_go f_Law_law_498 rfl
theorem f_Law_law_499 : fetch 215 499 = some (.iadd) := by decide +kernel
theorem e_Law_law_499 (a0 a1 a2 a3 : AV) (σ : aM) (x z : Int) (r : List AV)  : ev 215 499 [a0, a1, a2, a3] (aI z :: aI x :: r) σ = ev 215 500 [a0, a1, a2, a3] (aI (wr (x + z)) :: r) σ := ev_go f_Law_law_499 rfl
theorem f_Law_law_500 : fetch 215 500 = some (.iaload) := by decide +kernel
theorem e_Law_law_500 (a0 a1 a2 a3 : AV) (σ : aM) (x : Int) (r : List AV) (h : 0 ≤ x ∧ x < gI σ 34 0 (-1)) : ev 215 500 [a0, a1, a2, a3] (aI x :: aR 34 0 :: r) σ = ev 215 501 [a0, a1, a2, a3] (aI (gI σ 34 0 x) :: r) σ := ev_ldS f_Law_law_500 rfl h
theorem f_Law_law_501 : fetch 215 501 = some (.aload_n 0) := by decide +kernel
theorem e_Law_law_501 (a1 a2 a3 : AV) (σ : aM) (l0 : Option (Nat × Int)) (r : List AV)  : ev 215 501 [aQ l0, a1, a2, a3] (r) σ = ev 215 502 [aQ l0, a1, a2, a3] (aQ l0 :: r) σ := ev_go f_Law_law_501 rfl
theorem f_Law_law_502 : fetch 215 502 = some (.iload_n 3) := by decide +kernel
theorem e_Law_law_502 (a0 a1 a2 : AV) (σ : aM) (l3 : Int) (r : List AV)  : ev 215 502 [a0, a1, a2, aI l3] (r) σ = ev 215 503 [a0, a1, a2, aI l3] (aI l3 :: r) σ := ev_go f_Law_law_502 rfl
theorem f_Law_law_503 : fetch 215 503 = some (.iconst 3) := by decide +kernel
theorem e_Law_law_503 (a0 a1 a2 a3 : AV) (σ : aM) (r : List AV)  : ev 215 503 [a0, a1, a2, a3] (r) σ = ev 215 504 [a0, a1, a2, a3] (aI 3 :: r) σ := ev_go f_Law_law_503 rfl
theorem f_Law_law_504 : fetch 215 504 = some (.iadd) := by decide +kernel
theorem e_Law_law_504 (a0 a1 a2 a3 : AV) (σ : aM) (x z : Int) (r : List AV)  : ev 215 504 [a0, a1, a2, a3] (aI z :: aI x :: r) σ = ev 215 505 [a0, a1, a2, a3] (aI (wr (x + z)) :: r) σ := ev_go f_Law_law_504 rfl
theorem f_Law_law_505 : fetch 215 505 = some (.iaload) := by decide +kernel
theorem e_Law_law_505 (a0 a1 a2 a3 : AV) (σ : aM) (x : Int) (r : List AV) (h : 0 ≤ x ∧ x < gI σ 34 0 (-1)) : ev 215 505 [a0, a1, a2, a3] (aI x :: aR 34 0 :: r) σ = ev 215 506 [a0, a1, a2, a3] (aI (gI σ 34 0 x) :: r) σ := ev_ldS f_Law_law_505 rfl h
theorem f_Law_law_506 : fetch 215 506 = some (.aload_n 0) := by decide +kernel
theorem e_Law_law_506 (a1 a2 a3 : AV) (σ : aM) (l0 : Option (Nat × Int)) (r : List AV)  : ev 215 506 [aQ l0, a1, a2, a3] (r) σ = ev 215 507 [aQ l0, a1, a2, a3] (aQ l0 :: r) σ := ev_go f_Law_law_506 rfl
theorem f_Law_law_507 : fetch 215 507 = some (.iload_n 3) := by decide +kernel
theorem e_Law_law_507 (a0 a1 a2 : AV) (σ : aM) (l3 : Int) (r : List AV)  : ev 215 507 [a0, a1, a2, aI l3] (r) σ = ev 215 508 [a0, a1, a2, aI l3] (aI l3 :: r) σ := ev_go f_Law_law_507 rfl
theorem f_Law_law_508 : fetch 215 508 = some (.iconst 4) := by decide +kernel
theorem e_Law_law_508 (a0 a1 a2 a3 : AV) (σ : aM) (r : List AV)  : ev 215 508 [a0, a1, a2, a3] (r) σ = ev 215 509 [a0, a1, a2, a3] (aI 4 :: r) σ := ev_go f_Law_law_508 rfl
theorem f_Law_law_509 : fetch 215 509 = some (.iadd) := by decide +kernel
theorem e_Law_law_509 (a0 a1 a2 a3 : AV) (σ : aM) (x z : Int) (r : List AV)  : ev 215 509 [a0, a1, a2, a3] (aI z :: aI x :: r) σ = ev 215 510 [a0, a1, a2, a3] (aI (wr (x + z)) :: r) σ := ev_go f_Law_law_509 rfl
theorem f_Law_law_510 : fetch 215 510 = some (.iaload) := by decide +kernel
theorem e_Law_law_510 (a0 a1 a2 a3 : AV) (σ : aM) (x : Int) (r : List AV) (h : 0 ≤ x ∧ x < gI σ 34 0 (-1)) : ev 215 510 [a0, a1, a2, a3] (aI x :: aR 34 0 :: r) σ = ev 215 511 [a0, a1, a2, a3] (aI (gI σ 34 0 x) :: r) σ := ev_ldS f_Law_law_510 rfl h
theorem f_Law_law_511 : fetch 215 511 = some (.aload_n 0) := by decide +kernel
theorem e_Law_law_511 (a1 a2 a3 : AV) (σ : aM) (l0 : Option (Nat × Int)) (r : List AV)  : ev 215 511 [aQ l0, a1, a2, a3] (r) σ = ev 215 512 [aQ l0, a1, a2, a3] (aQ l0 :: r) σ := ev_go f_Law_law_511 rfl
theorem f_Law_law_512 : fetch 215 512 = some (.iload_n 3) := by decide +kernel
theorem e_Law_law_512 (a0 a1 a2 : AV) (σ : aM) (l3 : Int) (r : List AV)  : ev 215 512 [a0, a1, a2, aI l3] (r) σ = ev 215 513 [a0, a1, a2, aI l3] (aI l3 :: r) σ := ev_go f_Law_law_512 rfl
theorem f_Law_law_513 : fetch 215 513 = some (.iconst 5) := by decide +kernel
theorem e_Law_law_513 (a0 a1 a2 a3 : AV) (σ : aM) (r : List AV)  : ev 215 513 [a0, a1, a2, a3] (r) σ = ev 215 514 [a0, a1, a2, a3] (aI 5 :: r) σ := ev_go f_Law_law_513 rfl
theorem f_Law_law_514 : fetch 215 514 = some (.iadd) := by decide +kernel
theorem e_Law_law_514 (a0 a1 a2 a3 : AV) (σ : aM) (x z : Int) (r : List AV)  : ev 215 514 [a0, a1, a2, a3] (aI z :: aI x :: r) σ = ev 215 515 [a0, a1, a2, a3] (aI (wr (x + z)) :: r) σ := ev_go f_Law_law_514 rfl
theorem f_Law_law_515 : fetch 215 515 = some (.iaload) := by decide +kernel
theorem e_Law_law_515 (a0 a1 a2 a3 : AV) (σ : aM) (x : Int) (r : List AV) (h : 0 ≤ x ∧ x < gI σ 34 0 (-1)) : ev 215 515 [a0, a1, a2, a3] (aI x :: aR 34 0 :: r) σ = ev 215 516 [a0, a1, a2, a3] (aI (gI σ 34 0 x) :: r) σ := ev_ldS f_Law_law_515 rfl h
theorem f_Law_law_516 : fetch 215 516 = some (.invokevirtual 49) := by decide +kernel
theorem e_Law_law_516 (a0 a1 a2 a3 : AV) (σ : aM) (s0 : Int) (s1 : Int) (s2 : Int) (s3 : Int) (s4 : Int) (s5 : Int) : ev 215 516 [a0, a1, a2, a3] [aI s5, aI s4, aI s3, aI s2, aI s1, aR 0 s0] σ = evK 215 519 [a0, a1, a2, a3] [] (ev 85 0 [aR 0 s0, aI s1, aI s2, aI s3, aI s4, aI s5, aU, aU] [] σ) := ev_call f_Law_law_516 rfl rfl
theorem f_Law_law_519 : fetch 215 519 = some (.aload_n 2) := by decide +kernel
theorem e_Law_law_519 (a0 a1 a3 : AV) (σ : aM) (l2 : Option (Nat × Int)) (r : List AV)  : ev 215 519 [a0, a1, aQ l2, a3] (r) σ = ev 215 520 [a0, a1, aQ l2, a3] (aQ l2 :: r) σ := ev_go f_Law_law_519 rfl
theorem f_Law_law_520 : fetch 215 520 = some (.aload_n 0) := by decide +kernel
theorem e_Law_law_520 (a1 a2 a3 : AV) (σ : aM) (l0 : Option (Nat × Int)) (r : List AV)  : ev 215 520 [aQ l0, a1, a2, a3] (r) σ = ev 215 521 [aQ l0, a1, a2, a3] (aQ l0 :: r) σ := ev_go f_Law_law_520 rfl
theorem f_Law_law_521 : fetch 215 521 = some (.iload_n 3) := by decide +kernel
theorem e_Law_law_521 (a0 a1 a2 : AV) (σ : aM) (l3 : Int) (r : List AV)  : ev 215 521 [a0, a1, a2, aI l3] (r) σ = ev 215 522 [a0, a1, a2, aI l3] (aI l3 :: r) σ := ev_go f_Law_law_521 rfl
theorem f_Law_law_522 : fetch 215 522 = some (.iconst 1) := by decide +kernel
theorem e_Law_law_522 (a0 a1 a2 a3 : AV) (σ : aM) (r : List AV)  : ev 215 522 [a0, a1, a2, a3] (r) σ = ev 215 523 [a0, a1, a2, a3] (aI 1 :: r) σ := ev_go f_Law_law_522 rfl
theorem f_Law_law_523 : fetch 215 523 = some (.iadd) := by decide +kernel
theorem e_Law_law_523 (a0 a1 a2 a3 : AV) (σ : aM) (x z : Int) (r : List AV)  : ev 215 523 [a0, a1, a2, a3] (aI z :: aI x :: r) σ = ev 215 524 [a0, a1, a2, a3] (aI (wr (x + z)) :: r) σ := ev_go f_Law_law_523 rfl
theorem f_Law_law_524 : fetch 215 524 = some (.iaload) := by decide +kernel
theorem e_Law_law_524 (a0 a1 a2 a3 : AV) (σ : aM) (x : Int) (r : List AV) (h : 0 ≤ x ∧ x < gI σ 34 0 (-1)) : ev 215 524 [a0, a1, a2, a3] (aI x :: aR 34 0 :: r) σ = ev 215 525 [a0, a1, a2, a3] (aI (gI σ 34 0 x) :: r) σ := ev_ldS f_Law_law_524 rfl h
theorem f_Law_law_525 : fetch 215 525 = some (.aload_n 0) := by decide +kernel
theorem e_Law_law_525 (a1 a2 a3 : AV) (σ : aM) (l0 : Option (Nat × Int)) (r : List AV)  : ev 215 525 [aQ l0, a1, a2, a3] (r) σ = ev 215 526 [aQ l0, a1, a2, a3] (aQ l0 :: r) σ := ev_go f_Law_law_525 rfl
theorem f_Law_law_526 : fetch 215 526 = some (.iload_n 3) := by decide +kernel
theorem e_Law_law_526 (a0 a1 a2 : AV) (σ : aM) (l3 : Int) (r : List AV)  : ev 215 526 [a0, a1, a2, aI l3] (r) σ = ev 215 527 [a0, a1, a2, aI l3] (aI l3 :: r) σ := ev_go f_Law_law_526 rfl
theorem f_Law_law_527 : fetch 215 527 = some (.iconst 2) := by decide +kernel
theorem e_Law_law_527 (a0 a1 a2 a3 : AV) (σ : aM) (r : List AV)  : ev 215 527 [a0, a1, a2, a3] (r) σ = ev 215 528 [a0, a1, a2, a3] (aI 2 :: r) σ := ev_go f_Law_law_527 rfl
theorem f_Law_law_528 : fetch 215 528 = some (.iadd) := by decide +kernel
theorem e_Law_law_528 (a0 a1 a2 a3 : AV) (σ : aM) (x z : Int) (r : List AV)  : ev 215 528 [a0, a1, a2, a3] (aI z :: aI x :: r) σ = ev 215 529 [a0, a1, a2, a3] (aI (wr (x + z)) :: r) σ := ev_go f_Law_law_528 rfl
theorem f_Law_law_529 : fetch 215 529 = some (.iaload) := by decide +kernel
theorem e_Law_law_529 (a0 a1 a2 a3 : AV) (σ : aM) (x : Int) (r : List AV) (h : 0 ≤ x ∧ x < gI σ 34 0 (-1)) : ev 215 529 [a0, a1, a2, a3] (aI x :: aR 34 0 :: r) σ = ev 215 530 [a0, a1, a2, a3] (aI (gI σ 34 0 x) :: r) σ := ev_ldS f_Law_law_529 rfl h
theorem f_Law_law_530 : fetch 215 530 = some (.aload_n 0) := by decide +kernel
theorem e_Law_law_530 (a1 a2 a3 : AV) (σ : aM) (l0 : Option (Nat × Int)) (r : List AV)  : ev 215 530 [aQ l0, a1, a2, a3] (r) σ = ev 215 531 [aQ l0, a1, a2, a3] (aQ l0 :: r) σ := ev_go f_Law_law_530 rfl
theorem f_Law_law_531 : fetch 215 531 = some (.iload_n 3) := by decide +kernel
theorem e_Law_law_531 (a0 a1 a2 : AV) (σ : aM) (l3 : Int) (r : List AV)  : ev 215 531 [a0, a1, a2, aI l3] (r) σ = ev 215 532 [a0, a1, a2, aI l3] (aI l3 :: r) σ := ev_go f_Law_law_531 rfl
theorem f_Law_law_532 : fetch 215 532 = some (.iconst 3) := by decide +kernel
theorem e_Law_law_532 (a0 a1 a2 a3 : AV) (σ : aM) (r : List AV)  : ev 215 532 [a0, a1, a2, a3] (r) σ = ev 215 533 [a0, a1, a2, a3] (aI 3 :: r) σ := ev_go f_Law_law_532 rfl
theorem f_Law_law_533 : fetch 215 533 = some (.iadd) := by decide +kernel
theorem e_Law_law_533 (a0 a1 a2 a3 : AV) (σ : aM) (x z : Int) (r : List AV)  : ev 215 533 [a0, a1, a2, a3] (aI z :: aI x :: r) σ = ev 215 534 [a0, a1, a2, a3] (aI (wr (x + z)) :: r) σ := ev_go f_Law_law_533 rfl
theorem f_Law_law_534 : fetch 215 534 = some (.iaload) := by decide +kernel
theorem e_Law_law_534 (a0 a1 a2 a3 : AV) (σ : aM) (x : Int) (r : List AV) (h : 0 ≤ x ∧ x < gI σ 34 0 (-1)) : ev 215 534 [a0, a1, a2, a3] (aI x :: aR 34 0 :: r) σ = ev 215 535 [a0, a1, a2, a3] (aI (gI σ 34 0 x) :: r) σ := ev_ldS f_Law_law_534 rfl h
theorem f_Law_law_535 : fetch 215 535 = some (.aload_n 0) := by decide +kernel
theorem e_Law_law_535 (a1 a2 a3 : AV) (σ : aM) (l0 : Option (Nat × Int)) (r : List AV)  : ev 215 535 [aQ l0, a1, a2, a3] (r) σ = ev 215 536 [aQ l0, a1, a2, a3] (aQ l0 :: r) σ := ev_go f_Law_law_535 rfl
theorem f_Law_law_536 : fetch 215 536 = some (.iload_n 3) := by decide +kernel
theorem e_Law_law_536 (a0 a1 a2 : AV) (σ : aM) (l3 : Int) (r : List AV)  : ev 215 536 [a0, a1, a2, aI l3] (r) σ = ev 215 537 [a0, a1, a2, aI l3] (aI l3 :: r) σ := ev_go f_Law_law_536 rfl
theorem f_Law_law_537 : fetch 215 537 = some (.iconst 4) := by decide +kernel
theorem e_Law_law_537 (a0 a1 a2 a3 : AV) (σ : aM) (r : List AV)  : ev 215 537 [a0, a1, a2, a3] (r) σ = ev 215 538 [a0, a1, a2, a3] (aI 4 :: r) σ := ev_go f_Law_law_537 rfl
theorem f_Law_law_538 : fetch 215 538 = some (.iadd) := by decide +kernel
theorem e_Law_law_538 (a0 a1 a2 a3 : AV) (σ : aM) (x z : Int) (r : List AV)  : ev 215 538 [a0, a1, a2, a3] (aI z :: aI x :: r) σ = ev 215 539 [a0, a1, a2, a3] (aI (wr (x + z)) :: r) σ := ev_go f_Law_law_538 rfl
theorem f_Law_law_539 : fetch 215 539 = some (.iaload) := by decide +kernel
theorem e_Law_law_539 (a0 a1 a2 a3 : AV) (σ : aM) (x : Int) (r : List AV) (h : 0 ≤ x ∧ x < gI σ 34 0 (-1)) : ev 215 539 [a0, a1, a2, a3] (aI x :: aR 34 0 :: r) σ = ev 215 540 [a0, a1, a2, a3] (aI (gI σ 34 0 x) :: r) σ := ev_ldS f_Law_law_539 rfl h
theorem f_Law_law_540 : fetch 215 540 = some (.aload_n 0) := by decide +kernel
theorem e_Law_law_540 (a1 a2 a3 : AV) (σ : aM) (l0 : Option (Nat × Int)) (r : List AV)  : ev 215 540 [aQ l0, a1, a2, a3] (r) σ = ev 215 541 [aQ l0, a1, a2, a3] (aQ l0 :: r) σ := ev_go f_Law_law_540 rfl
theorem f_Law_law_541 : fetch 215 541 = some (.iload_n 3) := by decide +kernel
theorem e_Law_law_541 (a0 a1 a2 : AV) (σ : aM) (l3 : Int) (r : List AV)  : ev 215 541 [a0, a1, a2, aI l3] (r) σ = ev 215 542 [a0, a1, a2, aI l3] (aI l3 :: r) σ := ev_go f_Law_law_541 rfl
theorem f_Law_law_542 : fetch 215 542 = some (.iconst 5) := by decide +kernel
theorem e_Law_law_542 (a0 a1 a2 a3 : AV) (σ : aM) (r : List AV)  : ev 215 542 [a0, a1, a2, a3] (r) σ = ev 215 543 [a0, a1, a2, a3] (aI 5 :: r) σ := ev_go f_Law_law_542 rfl
theorem f_Law_law_543 : fetch 215 543 = some (.iadd) := by decide +kernel
theorem e_Law_law_543 (a0 a1 a2 a3 : AV) (σ : aM) (x z : Int) (r : List AV)  : ev 215 543 [a0, a1, a2, a3] (aI z :: aI x :: r) σ = ev 215 544 [a0, a1, a2, a3] (aI (wr (x + z)) :: r) σ := ev_go f_Law_law_543 rfl
theorem f_Law_law_544 : fetch 215 544 = some (.iaload) := by decide +kernel
theorem e_Law_law_544 (a0 a1 a2 a3 : AV) (σ : aM) (x : Int) (r : List AV) (h : 0 ≤ x ∧ x < gI σ 34 0 (-1)) : ev 215 544 [a0, a1, a2, a3] (aI x :: aR 34 0 :: r) σ = ev 215 545 [a0, a1, a2, a3] (aI (gI σ 34 0 x) :: r) σ := ev_ldS f_Law_law_544 rfl h
theorem f_Law_law_545 : fetch 215 545 = some (.invokevirtual 52) := by decide +kernel
theorem e_Law_law_545 (a0 a1 a2 a3 : AV) (σ : aM) (s0 : Int) (s1 : Int) (s2 : Int) (s3 : Int) (s4 : Int) (s5 : Int) (s6 : Int) : ev 215 545 [a0, a1, a2, a3] [aI s6, aI s5, aI s4, aI s3, aI s2, aR 25 s1, aI s0] σ = evK 215 548 [a0, a1, a2, a3] [aI s0] (ev 164 0 [aR 25 s1, aI s2, aI s3, aI s4, aI s5, aI s6, aU, aU] [] σ) := ev_call f_Law_law_545 rfl rfl
theorem f_Law_law_548 : fetch 215 548 = some (.if_icmp .eq 776) := by decide +kernel
theorem e_Law_law_548 (a0 a1 a2 a3 : AV) (σ : aM) (x z : Int) (r : List AV) : ev 215 548 [a0, a1, a2, a3] (aI z :: aI x :: r) σ = if x = z then ev 215 1324 [a0, a1, a2, a3] r σ else ev 215 551 [a0, a1, a2, a3] r σ := ev_br f_Law_law_548 rfl bc_eq
theorem f_Law_law_551 : fetch 215 551 = some (.iconst 0) := by decide +kernel
theorem e_Law_law_551 (a0 a1 a2 a3 : AV) (σ : aM) (r : List AV)  : ev 215 551 [a0, a1, a2, a3] (r) σ = ev 215 552 [a0, a1, a2, a3] (aI 0 :: r) σ := ev_go f_Law_law_551 rfl
theorem f_Law_law_552 : fetch 215 552 = some (.ireturn) := by decide +kernel
theorem e_Law_law_552 (a0 a1 a2 a3 : AV) (σ : aM) (x : Int) (h : x = 0 ∨ x = 1) : ev 215 552 [a0, a1, a2, a3] [aI x] σ = some ((some (aI x)), σ) := ev_rB f_Law_law_552 rfl h
theorem f_Law_law_553 : fetch 215 553 = some (.aload_n 1) := by decide +kernel
theorem e_Law_law_553 (a0 a2 a3 : AV) (σ : aM) (l1 : Option (Nat × Int)) (r : List AV)  : ev 215 553 [a0, aQ l1, a2, a3] (r) σ = ev 215 554 [a0, aQ l1, a2, a3] (aQ l1 :: r) σ := ev_go f_Law_law_553 rfl
theorem f_Law_law_554 : fetch 215 554 = some (.aload_n 0) := by decide +kernel
theorem e_Law_law_554 (a1 a2 a3 : AV) (σ : aM) (l0 : Option (Nat × Int)) (r : List AV)  : ev 215 554 [aQ l0, a1, a2, a3] (r) σ = ev 215 555 [aQ l0, a1, a2, a3] (aQ l0 :: r) σ := ev_go f_Law_law_554 rfl
theorem f_Law_law_555 : fetch 215 555 = some (.iload_n 3) := by decide +kernel
theorem e_Law_law_555 (a0 a1 a2 : AV) (σ : aM) (l3 : Int) (r : List AV)  : ev 215 555 [a0, a1, a2, aI l3] (r) σ = ev 215 556 [a0, a1, a2, aI l3] (aI l3 :: r) σ := ev_go f_Law_law_555 rfl
theorem f_Law_law_556 : fetch 215 556 = some (.iconst 1) := by decide +kernel
theorem e_Law_law_556 (a0 a1 a2 a3 : AV) (σ : aM) (r : List AV)  : ev 215 556 [a0, a1, a2, a3] (r) σ = ev 215 557 [a0, a1, a2, a3] (aI 1 :: r) σ := ev_go f_Law_law_556 rfl
theorem f_Law_law_557 : fetch 215 557 = some (.iadd) := by decide +kernel
theorem e_Law_law_557 (a0 a1 a2 a3 : AV) (σ : aM) (x z : Int) (r : List AV)  : ev 215 557 [a0, a1, a2, a3] (aI z :: aI x :: r) σ = ev 215 558 [a0, a1, a2, a3] (aI (wr (x + z)) :: r) σ := ev_go f_Law_law_557 rfl
theorem f_Law_law_558 : fetch 215 558 = some (.iaload) := by decide +kernel
theorem e_Law_law_558 (a0 a1 a2 a3 : AV) (σ : aM) (x : Int) (r : List AV) (h : 0 ≤ x ∧ x < gI σ 34 0 (-1)) : ev 215 558 [a0, a1, a2, a3] (aI x :: aR 34 0 :: r) σ = ev 215 559 [a0, a1, a2, a3] (aI (gI σ 34 0 x) :: r) σ := ev_ldS f_Law_law_558 rfl h
theorem f_Law_law_559 : fetch 215 559 = some (.aload_n 0) := by decide +kernel
theorem e_Law_law_559 (a1 a2 a3 : AV) (σ : aM) (l0 : Option (Nat × Int)) (r : List AV)  : ev 215 559 [aQ l0, a1, a2, a3] (r) σ = ev 215 560 [aQ l0, a1, a2, a3] (aQ l0 :: r) σ := ev_go f_Law_law_559 rfl
theorem f_Law_law_560 : fetch 215 560 = some (.iload_n 3) := by decide +kernel
theorem e_Law_law_560 (a0 a1 a2 : AV) (σ : aM) (l3 : Int) (r : List AV)  : ev 215 560 [a0, a1, a2, aI l3] (r) σ = ev 215 561 [a0, a1, a2, aI l3] (aI l3 :: r) σ := ev_go f_Law_law_560 rfl
theorem f_Law_law_561 : fetch 215 561 = some (.iconst 2) := by decide +kernel
theorem e_Law_law_561 (a0 a1 a2 a3 : AV) (σ : aM) (r : List AV)  : ev 215 561 [a0, a1, a2, a3] (r) σ = ev 215 562 [a0, a1, a2, a3] (aI 2 :: r) σ := ev_go f_Law_law_561 rfl
theorem f_Law_law_562 : fetch 215 562 = some (.iadd) := by decide +kernel
theorem e_Law_law_562 (a0 a1 a2 a3 : AV) (σ : aM) (x z : Int) (r : List AV)  : ev 215 562 [a0, a1, a2, a3] (aI z :: aI x :: r) σ = ev 215 563 [a0, a1, a2, a3] (aI (wr (x + z)) :: r) σ := ev_go f_Law_law_562 rfl
theorem f_Law_law_563 : fetch 215 563 = some (.iaload) := by decide +kernel
theorem e_Law_law_563 (a0 a1 a2 a3 : AV) (σ : aM) (x : Int) (r : List AV) (h : 0 ≤ x ∧ x < gI σ 34 0 (-1)) : ev 215 563 [a0, a1, a2, a3] (aI x :: aR 34 0 :: r) σ = ev 215 564 [a0, a1, a2, a3] (aI (gI σ 34 0 x) :: r) σ := ev_ldS f_Law_law_563 rfl h
theorem f_Law_law_564 : fetch 215 564 = some (.aload_n 0) := by decide +kernel
theorem e_Law_law_564 (a1 a2 a3 : AV) (σ : aM) (l0 : Option (Nat × Int)) (r : List AV)  : ev 215 564 [aQ l0, a1, a2, a3] (r) σ = ev 215 565 [aQ l0, a1, a2, a3] (aQ l0 :: r) σ := ev_go f_Law_law_564 rfl
theorem f_Law_law_565 : fetch 215 565 = some (.iload_n 3) := by decide +kernel
theorem e_Law_law_565 (a0 a1 a2 : AV) (σ : aM) (l3 : Int) (r : List AV)  : ev 215 565 [a0, a1, a2, aI l3] (r) σ = ev 215 566 [a0, a1, a2, aI l3] (aI l3 :: r) σ := ev_go f_Law_law_565 rfl
theorem f_Law_law_566 : fetch 215 566 = some (.iconst 3) := by decide +kernel
theorem e_Law_law_566 (a0 a1 a2 a3 : AV) (σ : aM) (r : List AV)  : ev 215 566 [a0, a1, a2, a3] (r) σ = ev 215 567 [a0, a1, a2, a3] (aI 3 :: r) σ := ev_go f_Law_law_566 rfl
theorem f_Law_law_567 : fetch 215 567 = some (.iadd) := by decide +kernel
theorem e_Law_law_567 (a0 a1 a2 a3 : AV) (σ : aM) (x z : Int) (r : List AV)  : ev 215 567 [a0, a1, a2, a3] (aI z :: aI x :: r) σ = ev 215 568 [a0, a1, a2, a3] (aI (wr (x + z)) :: r) σ := ev_go f_Law_law_567 rfl
theorem f_Law_law_568 : fetch 215 568 = some (.iaload) := by decide +kernel
theorem e_Law_law_568 (a0 a1 a2 a3 : AV) (σ : aM) (x : Int) (r : List AV) (h : 0 ≤ x ∧ x < gI σ 34 0 (-1)) : ev 215 568 [a0, a1, a2, a3] (aI x :: aR 34 0 :: r) σ = ev 215 569 [a0, a1, a2, a3] (aI (gI σ 34 0 x) :: r) σ := ev_ldS f_Law_law_568 rfl h
theorem f_Law_law_569 : fetch 215 569 = some (.aload_n 0) := by decide +kernel
theorem e_Law_law_569 (a1 a2 a3 : AV) (σ : aM) (l0 : Option (Nat × Int)) (r : List AV)  : ev 215 569 [aQ l0, a1, a2, a3] (r) σ = ev 215 570 [aQ l0, a1, a2, a3] (aQ l0 :: r) σ := ev_go f_Law_law_569 rfl
theorem f_Law_law_570 : fetch 215 570 = some (.iload_n 3) := by decide +kernel
theorem e_Law_law_570 (a0 a1 a2 : AV) (σ : aM) (l3 : Int) (r : List AV)  : ev 215 570 [a0, a1, a2, aI l3] (r) σ = ev 215 571 [a0, a1, a2, aI l3] (aI l3 :: r) σ := ev_go f_Law_law_570 rfl
theorem f_Law_law_571 : fetch 215 571 = some (.iconst 4) := by decide +kernel
theorem e_Law_law_571 (a0 a1 a2 a3 : AV) (σ : aM) (r : List AV)  : ev 215 571 [a0, a1, a2, a3] (r) σ = ev 215 572 [a0, a1, a2, a3] (aI 4 :: r) σ := ev_go f_Law_law_571 rfl
theorem f_Law_law_572 : fetch 215 572 = some (.iadd) := by decide +kernel
theorem e_Law_law_572 (a0 a1 a2 a3 : AV) (σ : aM) (x z : Int) (r : List AV)  : ev 215 572 [a0, a1, a2, a3] (aI z :: aI x :: r) σ = ev 215 573 [a0, a1, a2, a3] (aI (wr (x + z)) :: r) σ := ev_go f_Law_law_572 rfl
theorem f_Law_law_573 : fetch 215 573 = some (.iaload) := by decide +kernel
theorem e_Law_law_573 (a0 a1 a2 a3 : AV) (σ : aM) (x : Int) (r : List AV) (h : 0 ≤ x ∧ x < gI σ 34 0 (-1)) : ev 215 573 [a0, a1, a2, a3] (aI x :: aR 34 0 :: r) σ = ev 215 574 [a0, a1, a2, a3] (aI (gI σ 34 0 x) :: r) σ := ev_ldS f_Law_law_573 rfl h
theorem f_Law_law_574 : fetch 215 574 = some (.aload_n 0) := by decide +kernel
theorem e_Law_law_574 (a1 a2 a3 : AV) (σ : aM) (l0 : Option (Nat × Int)) (r : List AV)  : ev 215 574 [aQ l0, a1, a2, a3] (r) σ = ev 215 575 [aQ l0, a1, a2, a3] (aQ l0 :: r) σ := ev_go f_Law_law_574 rfl
theorem f_Law_law_575 : fetch 215 575 = some (.iload_n 3) := by decide +kernel
theorem e_Law_law_575 (a0 a1 a2 : AV) (σ : aM) (l3 : Int) (r : List AV)  : ev 215 575 [a0, a1, a2, aI l3] (r) σ = ev 215 576 [a0, a1, a2, aI l3] (aI l3 :: r) σ := ev_go f_Law_law_575 rfl
theorem f_Law_law_576 : fetch 215 576 = some (.iconst 5) := by decide +kernel
theorem e_Law_law_576 (a0 a1 a2 a3 : AV) (σ : aM) (r : List AV)  : ev 215 576 [a0, a1, a2, a3] (r) σ = ev 215 577 [a0, a1, a2, a3] (aI 5 :: r) σ := ev_go f_Law_law_576 rfl
theorem f_Law_law_577 : fetch 215 577 = some (.iadd) := by decide +kernel
theorem e_Law_law_577 (a0 a1 a2 a3 : AV) (σ : aM) (x z : Int) (r : List AV)  : ev 215 577 [a0, a1, a2, a3] (aI z :: aI x :: r) σ = ev 215 578 [a0, a1, a2, a3] (aI (wr (x + z)) :: r) σ := ev_go f_Law_law_577 rfl
theorem f_Law_law_578 : fetch 215 578 = some (.iaload) := by decide +kernel
theorem e_Law_law_578 (a0 a1 a2 a3 : AV) (σ : aM) (x : Int) (r : List AV) (h : 0 ≤ x ∧ x < gI σ 34 0 (-1)) : ev 215 578 [a0, a1, a2, a3] (aI x :: aR 34 0 :: r) σ = ev 215 579 [a0, a1, a2, a3] (aI (gI σ 34 0 x) :: r) σ := ev_ldS f_Law_law_578 rfl h
theorem f_Law_law_579 : fetch 215 579 = some (.invokevirtual 53) := by decide +kernel
theorem e_Law_law_579 (a0 a1 a2 a3 : AV) (σ : aM) (s0 : Int) (s1 : Int) (s2 : Int) (s3 : Int) (s4 : Int) (s5 : Int) : ev 215 579 [a0, a1, a2, a3] [aI s5, aI s4, aI s3, aI s2, aI s1, aR 0 s0] σ = evK 215 582 [a0, a1, a2, a3] [] (ev 86 0 [aR 0 s0, aI s1, aI s2, aI s3, aI s4, aI s5, aU, aU] [] σ) := ev_call f_Law_law_579 rfl rfl
theorem f_Law_law_582 : fetch 215 582 = some (.aload_n 2) := by decide +kernel
theorem e_Law_law_582 (a0 a1 a3 : AV) (σ : aM) (l2 : Option (Nat × Int)) (r : List AV)  : ev 215 582 [a0, a1, aQ l2, a3] (r) σ = ev 215 583 [a0, a1, aQ l2, a3] (aQ l2 :: r) σ := ev_go f_Law_law_582 rfl
theorem f_Law_law_583 : fetch 215 583 = some (.aload_n 0) := by decide +kernel
theorem e_Law_law_583 (a1 a2 a3 : AV) (σ : aM) (l0 : Option (Nat × Int)) (r : List AV)  : ev 215 583 [aQ l0, a1, a2, a3] (r) σ = ev 215 584 [aQ l0, a1, a2, a3] (aQ l0 :: r) σ := ev_go f_Law_law_583 rfl
theorem f_Law_law_584 : fetch 215 584 = some (.iload_n 3) := by decide +kernel
theorem e_Law_law_584 (a0 a1 a2 : AV) (σ : aM) (l3 : Int) (r : List AV)  : ev 215 584 [a0, a1, a2, aI l3] (r) σ = ev 215 585 [a0, a1, a2, aI l3] (aI l3 :: r) σ := ev_go f_Law_law_584 rfl
theorem f_Law_law_585 : fetch 215 585 = some (.iconst 1) := by decide +kernel
theorem e_Law_law_585 (a0 a1 a2 a3 : AV) (σ : aM) (r : List AV)  : ev 215 585 [a0, a1, a2, a3] (r) σ = ev 215 586 [a0, a1, a2, a3] (aI 1 :: r) σ := ev_go f_Law_law_585 rfl
theorem f_Law_law_586 : fetch 215 586 = some (.iadd) := by decide +kernel
theorem e_Law_law_586 (a0 a1 a2 a3 : AV) (σ : aM) (x z : Int) (r : List AV)  : ev 215 586 [a0, a1, a2, a3] (aI z :: aI x :: r) σ = ev 215 587 [a0, a1, a2, a3] (aI (wr (x + z)) :: r) σ := ev_go f_Law_law_586 rfl
theorem f_Law_law_587 : fetch 215 587 = some (.iaload) := by decide +kernel
theorem e_Law_law_587 (a0 a1 a2 a3 : AV) (σ : aM) (x : Int) (r : List AV) (h : 0 ≤ x ∧ x < gI σ 34 0 (-1)) : ev 215 587 [a0, a1, a2, a3] (aI x :: aR 34 0 :: r) σ = ev 215 588 [a0, a1, a2, a3] (aI (gI σ 34 0 x) :: r) σ := ev_ldS f_Law_law_587 rfl h
theorem f_Law_law_588 : fetch 215 588 = some (.aload_n 0) := by decide +kernel
theorem e_Law_law_588 (a1 a2 a3 : AV) (σ : aM) (l0 : Option (Nat × Int)) (r : List AV)  : ev 215 588 [aQ l0, a1, a2, a3] (r) σ = ev 215 589 [aQ l0, a1, a2, a3] (aQ l0 :: r) σ := ev_go f_Law_law_588 rfl
theorem f_Law_law_589 : fetch 215 589 = some (.iload_n 3) := by decide +kernel
theorem e_Law_law_589 (a0 a1 a2 : AV) (σ : aM) (l3 : Int) (r : List AV)  : ev 215 589 [a0, a1, a2, aI l3] (r) σ = ev 215 590 [a0, a1, a2, aI l3] (aI l3 :: r) σ := ev_go f_Law_law_589 rfl
theorem f_Law_law_590 : fetch 215 590 = some (.iconst 2) := by decide +kernel
theorem e_Law_law_590 (a0 a1 a2 a3 : AV) (σ : aM) (r : List AV)  : ev 215 590 [a0, a1, a2, a3] (r) σ = ev 215 591 [a0, a1, a2, a3] (aI 2 :: r) σ := ev_go f_Law_law_590 rfl
theorem f_Law_law_591 : fetch 215 591 = some (.iadd) := by decide +kernel
theorem e_Law_law_591 (a0 a1 a2 a3 : AV) (σ : aM) (x z : Int) (r : List AV)  : ev 215 591 [a0, a1, a2, a3] (aI z :: aI x :: r) σ = ev 215 592 [a0, a1, a2, a3] (aI (wr (x + z)) :: r) σ := ev_go f_Law_law_591 rfl
theorem f_Law_law_592 : fetch 215 592 = some (.iaload) := by decide +kernel
theorem e_Law_law_592 (a0 a1 a2 a3 : AV) (σ : aM) (x : Int) (r : List AV) (h : 0 ≤ x ∧ x < gI σ 34 0 (-1)) : ev 215 592 [a0, a1, a2, a3] (aI x :: aR 34 0 :: r) σ = ev 215 593 [a0, a1, a2, a3] (aI (gI σ 34 0 x) :: r) σ := ev_ldS f_Law_law_592 rfl h
theorem f_Law_law_593 : fetch 215 593 = some (.aload_n 0) := by decide +kernel
theorem e_Law_law_593 (a1 a2 a3 : AV) (σ : aM) (l0 : Option (Nat × Int)) (r : List AV)  : ev 215 593 [aQ l0, a1, a2, a3] (r) σ = ev 215 594 [aQ l0, a1, a2, a3] (aQ l0 :: r) σ := ev_go f_Law_law_593 rfl
theorem f_Law_law_594 : fetch 215 594 = some (.iload_n 3) := by decide +kernel
theorem e_Law_law_594 (a0 a1 a2 : AV) (σ : aM) (l3 : Int) (r : List AV)  : ev 215 594 [a0, a1, a2, aI l3] (r) σ = ev 215 595 [a0, a1, a2, aI l3] (aI l3 :: r) σ := ev_go f_Law_law_594 rfl
theorem f_Law_law_595 : fetch 215 595 = some (.iconst 3) := by decide +kernel
theorem e_Law_law_595 (a0 a1 a2 a3 : AV) (σ : aM) (r : List AV)  : ev 215 595 [a0, a1, a2, a3] (r) σ = ev 215 596 [a0, a1, a2, a3] (aI 3 :: r) σ := ev_go f_Law_law_595 rfl
theorem f_Law_law_596 : fetch 215 596 = some (.iadd) := by decide +kernel
theorem e_Law_law_596 (a0 a1 a2 a3 : AV) (σ : aM) (x z : Int) (r : List AV)  : ev 215 596 [a0, a1, a2, a3] (aI z :: aI x :: r) σ = ev 215 597 [a0, a1, a2, a3] (aI (wr (x + z)) :: r) σ := ev_go f_Law_law_596 rfl
theorem f_Law_law_597 : fetch 215 597 = some (.iaload) := by decide +kernel
theorem e_Law_law_597 (a0 a1 a2 a3 : AV) (σ : aM) (x : Int) (r : List AV) (h : 0 ≤ x ∧ x < gI σ 34 0 (-1)) : ev 215 597 [a0, a1, a2, a3] (aI x :: aR 34 0 :: r) σ = ev 215 598 [a0, a1, a2, a3] (aI (gI σ 34 0 x) :: r) σ := ev_ldS f_Law_law_597 rfl h
theorem f_Law_law_598 : fetch 215 598 = some (.aload_n 0) := by decide +kernel
theorem e_Law_law_598 (a1 a2 a3 : AV) (σ : aM) (l0 : Option (Nat × Int)) (r : List AV)  : ev 215 598 [aQ l0, a1, a2, a3] (r) σ = ev 215 599 [aQ l0, a1, a2, a3] (aQ l0 :: r) σ := ev_go f_Law_law_598 rfl
theorem f_Law_law_599 : fetch 215 599 = some (.iload_n 3) := by decide +kernel
theorem e_Law_law_599 (a0 a1 a2 : AV) (σ : aM) (l3 : Int) (r : List AV)  : ev 215 599 [a0, a1, a2, aI l3] (r) σ = ev 215 600 [a0, a1, a2, aI l3] (aI l3 :: r) σ := ev_go f_Law_law_599 rfl
theorem f_Law_law_600 : fetch 215 600 = some (.iconst 4) := by decide +kernel
theorem e_Law_law_600 (a0 a1 a2 a3 : AV) (σ : aM) (r : List AV)  : ev 215 600 [a0, a1, a2, a3] (r) σ = ev 215 601 [a0, a1, a2, a3] (aI 4 :: r) σ := ev_go f_Law_law_600 rfl
theorem f_Law_law_601 : fetch 215 601 = some (.iadd) := by decide +kernel
theorem e_Law_law_601 (a0 a1 a2 a3 : AV) (σ : aM) (x z : Int) (r : List AV)  : ev 215 601 [a0, a1, a2, a3] (aI z :: aI x :: r) σ = ev 215 602 [a0, a1, a2, a3] (aI (wr (x + z)) :: r) σ := ev_go f_Law_law_601 rfl
theorem f_Law_law_602 : fetch 215 602 = some (.iaload) := by decide +kernel
theorem e_Law_law_602 (a0 a1 a2 a3 : AV) (σ : aM) (x : Int) (r : List AV) (h : 0 ≤ x ∧ x < gI σ 34 0 (-1)) : ev 215 602 [a0, a1, a2, a3] (aI x :: aR 34 0 :: r) σ = ev 215 603 [a0, a1, a2, a3] (aI (gI σ 34 0 x) :: r) σ := ev_ldS f_Law_law_602 rfl h
theorem f_Law_law_603 : fetch 215 603 = some (.aload_n 0) := by decide +kernel
theorem e_Law_law_603 (a1 a2 a3 : AV) (σ : aM) (l0 : Option (Nat × Int)) (r : List AV)  : ev 215 603 [aQ l0, a1, a2, a3] (r) σ = ev 215 604 [aQ l0, a1, a2, a3] (aQ l0 :: r) σ := ev_go f_Law_law_603 rfl
theorem f_Law_law_604 : fetch 215 604 = some (.iload_n 3) := by decide +kernel
theorem e_Law_law_604 (a0 a1 a2 : AV) (σ : aM) (l3 : Int) (r : List AV)  : ev 215 604 [a0, a1, a2, aI l3] (r) σ = ev 215 605 [a0, a1, a2, aI l3] (aI l3 :: r) σ := ev_go f_Law_law_604 rfl
theorem f_Law_law_605 : fetch 215 605 = some (.iconst 5) := by decide +kernel
theorem e_Law_law_605 (a0 a1 a2 a3 : AV) (σ : aM) (r : List AV)  : ev 215 605 [a0, a1, a2, a3] (r) σ = ev 215 606 [a0, a1, a2, a3] (aI 5 :: r) σ := ev_go f_Law_law_605 rfl
theorem f_Law_law_606 : fetch 215 606 = some (.iadd) := by decide +kernel
theorem e_Law_law_606 (a0 a1 a2 a3 : AV) (σ : aM) (x z : Int) (r : List AV)  : ev 215 606 [a0, a1, a2, a3] (aI z :: aI x :: r) σ = ev 215 607 [a0, a1, a2, a3] (aI (wr (x + z)) :: r) σ := ev_go f_Law_law_606 rfl
theorem f_Law_law_607 : fetch 215 607 = some (.iaload) := by decide +kernel
theorem e_Law_law_607 (a0 a1 a2 a3 : AV) (σ : aM) (x : Int) (r : List AV) (h : 0 ≤ x ∧ x < gI σ 34 0 (-1)) : ev 215 607 [a0, a1, a2, a3] (aI x :: aR 34 0 :: r) σ = ev 215 608 [a0, a1, a2, a3] (aI (gI σ 34 0 x) :: r) σ := ev_ldS f_Law_law_607 rfl h
theorem f_Law_law_608 : fetch 215 608 = some (.invokevirtual 56) := by decide +kernel
theorem e_Law_law_608 (a0 a1 a2 a3 : AV) (σ : aM) (s0 : Int) (s1 : Int) (s2 : Int) (s3 : Int) (s4 : Int) (s5 : Int) (s6 : Int) : ev 215 608 [a0, a1, a2, a3] [aI s6, aI s5, aI s4, aI s3, aI s2, aR 25 s1, aI s0] σ = evK 215 611 [a0, a1, a2, a3] [aI s0] (ev 165 0 [aR 25 s1, aI s2, aI s3, aI s4, aI s5, aI s6, aU, aU] [] σ) := ev_call f_Law_law_608 rfl rfl
theorem f_Law_law_611 : fetch 215 611 = some (.if_icmp .eq 713) := by decide +kernel
theorem e_Law_law_611 (a0 a1 a2 a3 : AV) (σ : aM) (x z : Int) (r : List AV) : ev 215 611 [a0, a1, a2, a3] (aI z :: aI x :: r) σ = if x = z then ev 215 1324 [a0, a1, a2, a3] r σ else ev 215 614 [a0, a1, a2, a3] r σ := ev_br f_Law_law_611 rfl bc_eq
theorem f_Law_law_614 : fetch 215 614 = some (.iconst 0) := by decide +kernel
theorem e_Law_law_614 (a0 a1 a2 a3 : AV) (σ : aM) (r : List AV)  : ev 215 614 [a0, a1, a2, a3] (r) σ = ev 215 615 [a0, a1, a2, a3] (aI 0 :: r) σ := ev_go f_Law_law_614 rfl
theorem f_Law_law_615 : fetch 215 615 = some (.ireturn) := by decide +kernel
theorem e_Law_law_615 (a0 a1 a2 a3 : AV) (σ : aM) (x : Int) (h : x = 0 ∨ x = 1) : ev 215 615 [a0, a1, a2, a3] [aI x] σ = some ((some (aI x)), σ) := ev_rB f_Law_law_615 rfl h
theorem f_Law_law_616 : fetch 215 616 = some (.aload_n 1) := by decide +kernel
theorem e_Law_law_616 (a0 a2 a3 : AV) (σ : aM) (l1 : Option (Nat × Int)) (r : List AV)  : ev 215 616 [a0, aQ l1, a2, a3] (r) σ = ev 215 617 [a0, aQ l1, a2, a3] (aQ l1 :: r) σ := ev_go f_Law_law_616 rfl
theorem f_Law_law_617 : fetch 215 617 = some (.aload_n 0) := by decide +kernel
theorem e_Law_law_617 (a1 a2 a3 : AV) (σ : aM) (l0 : Option (Nat × Int)) (r : List AV)  : ev 215 617 [aQ l0, a1, a2, a3] (r) σ = ev 215 618 [aQ l0, a1, a2, a3] (aQ l0 :: r) σ := ev_go f_Law_law_617 rfl
theorem f_Law_law_618 : fetch 215 618 = some (.iload_n 3) := by decide +kernel
theorem e_Law_law_618 (a0 a1 a2 : AV) (σ : aM) (l3 : Int) (r : List AV)  : ev 215 618 [a0, a1, a2, aI l3] (r) σ = ev 215 619 [a0, a1, a2, aI l3] (aI l3 :: r) σ := ev_go f_Law_law_618 rfl
theorem f_Law_law_619 : fetch 215 619 = some (.iconst 1) := by decide +kernel
theorem e_Law_law_619 (a0 a1 a2 a3 : AV) (σ : aM) (r : List AV)  : ev 215 619 [a0, a1, a2, a3] (r) σ = ev 215 620 [a0, a1, a2, a3] (aI 1 :: r) σ := ev_go f_Law_law_619 rfl
theorem f_Law_law_620 : fetch 215 620 = some (.iadd) := by decide +kernel
theorem e_Law_law_620 (a0 a1 a2 a3 : AV) (σ : aM) (x z : Int) (r : List AV)  : ev 215 620 [a0, a1, a2, a3] (aI z :: aI x :: r) σ = ev 215 621 [a0, a1, a2, a3] (aI (wr (x + z)) :: r) σ := ev_go f_Law_law_620 rfl
theorem f_Law_law_621 : fetch 215 621 = some (.iaload) := by decide +kernel
theorem e_Law_law_621 (a0 a1 a2 a3 : AV) (σ : aM) (x : Int) (r : List AV) (h : 0 ≤ x ∧ x < gI σ 34 0 (-1)) : ev 215 621 [a0, a1, a2, a3] (aI x :: aR 34 0 :: r) σ = ev 215 622 [a0, a1, a2, a3] (aI (gI σ 34 0 x) :: r) σ := ev_ldS f_Law_law_621 rfl h
theorem f_Law_law_622 : fetch 215 622 = some (.aload_n 0) := by decide +kernel
theorem e_Law_law_622 (a1 a2 a3 : AV) (σ : aM) (l0 : Option (Nat × Int)) (r : List AV)  : ev 215 622 [aQ l0, a1, a2, a3] (r) σ = ev 215 623 [aQ l0, a1, a2, a3] (aQ l0 :: r) σ := ev_go f_Law_law_622 rfl
theorem f_Law_law_623 : fetch 215 623 = some (.iload_n 3) := by decide +kernel
theorem e_Law_law_623 (a0 a1 a2 : AV) (σ : aM) (l3 : Int) (r : List AV)  : ev 215 623 [a0, a1, a2, aI l3] (r) σ = ev 215 624 [a0, a1, a2, aI l3] (aI l3 :: r) σ := ev_go f_Law_law_623 rfl
theorem f_Law_law_624 : fetch 215 624 = some (.iconst 2) := by decide +kernel
theorem e_Law_law_624 (a0 a1 a2 a3 : AV) (σ : aM) (r : List AV)  : ev 215 624 [a0, a1, a2, a3] (r) σ = ev 215 625 [a0, a1, a2, a3] (aI 2 :: r) σ := ev_go f_Law_law_624 rfl
theorem f_Law_law_625 : fetch 215 625 = some (.iadd) := by decide +kernel
theorem e_Law_law_625 (a0 a1 a2 a3 : AV) (σ : aM) (x z : Int) (r : List AV)  : ev 215 625 [a0, a1, a2, a3] (aI z :: aI x :: r) σ = ev 215 626 [a0, a1, a2, a3] (aI (wr (x + z)) :: r) σ := ev_go f_Law_law_625 rfl
theorem f_Law_law_626 : fetch 215 626 = some (.iaload) := by decide +kernel
theorem e_Law_law_626 (a0 a1 a2 a3 : AV) (σ : aM) (x : Int) (r : List AV) (h : 0 ≤ x ∧ x < gI σ 34 0 (-1)) : ev 215 626 [a0, a1, a2, a3] (aI x :: aR 34 0 :: r) σ = ev 215 627 [a0, a1, a2, a3] (aI (gI σ 34 0 x) :: r) σ := ev_ldS f_Law_law_626 rfl h
theorem f_Law_law_627 : fetch 215 627 = some (.aload_n 0) := by decide +kernel
theorem e_Law_law_627 (a1 a2 a3 : AV) (σ : aM) (l0 : Option (Nat × Int)) (r : List AV)  : ev 215 627 [aQ l0, a1, a2, a3] (r) σ = ev 215 628 [aQ l0, a1, a2, a3] (aQ l0 :: r) σ := ev_go f_Law_law_627 rfl
theorem f_Law_law_628 : fetch 215 628 = some (.iload_n 3) := by decide +kernel
theorem e_Law_law_628 (a0 a1 a2 : AV) (σ : aM) (l3 : Int) (r : List AV)  : ev 215 628 [a0, a1, a2, aI l3] (r) σ = ev 215 629 [a0, a1, a2, aI l3] (aI l3 :: r) σ := ev_go f_Law_law_628 rfl
theorem f_Law_law_629 : fetch 215 629 = some (.iconst 3) := by decide +kernel
theorem e_Law_law_629 (a0 a1 a2 a3 : AV) (σ : aM) (r : List AV)  : ev 215 629 [a0, a1, a2, a3] (r) σ = ev 215 630 [a0, a1, a2, a3] (aI 3 :: r) σ := ev_go f_Law_law_629 rfl
theorem f_Law_law_630 : fetch 215 630 = some (.iadd) := by decide +kernel
theorem e_Law_law_630 (a0 a1 a2 a3 : AV) (σ : aM) (x z : Int) (r : List AV)  : ev 215 630 [a0, a1, a2, a3] (aI z :: aI x :: r) σ = ev 215 631 [a0, a1, a2, a3] (aI (wr (x + z)) :: r) σ := ev_go f_Law_law_630 rfl
theorem f_Law_law_631 : fetch 215 631 = some (.iaload) := by decide +kernel
theorem e_Law_law_631 (a0 a1 a2 a3 : AV) (σ : aM) (x : Int) (r : List AV) (h : 0 ≤ x ∧ x < gI σ 34 0 (-1)) : ev 215 631 [a0, a1, a2, a3] (aI x :: aR 34 0 :: r) σ = ev 215 632 [a0, a1, a2, a3] (aI (gI σ 34 0 x) :: r) σ := ev_ldS f_Law_law_631 rfl h
theorem f_Law_law_632 : fetch 215 632 = some (.aload_n 0) := by decide +kernel
theorem e_Law_law_632 (a1 a2 a3 : AV) (σ : aM) (l0 : Option (Nat × Int)) (r : List AV)  : ev 215 632 [aQ l0, a1, a2, a3] (r) σ = ev 215 633 [aQ l0, a1, a2, a3] (aQ l0 :: r) σ := ev_go f_Law_law_632 rfl
theorem f_Law_law_633 : fetch 215 633 = some (.iload_n 3) := by decide +kernel
theorem e_Law_law_633 (a0 a1 a2 : AV) (σ : aM) (l3 : Int) (r : List AV)  : ev 215 633 [a0, a1, a2, aI l3] (r) σ = ev 215 634 [a0, a1, a2, aI l3] (aI l3 :: r) σ := ev_go f_Law_law_633 rfl
theorem f_Law_law_634 : fetch 215 634 = some (.iconst 4) := by decide +kernel
theorem e_Law_law_634 (a0 a1 a2 a3 : AV) (σ : aM) (r : List AV)  : ev 215 634 [a0, a1, a2, a3] (r) σ = ev 215 635 [a0, a1, a2, a3] (aI 4 :: r) σ := ev_go f_Law_law_634 rfl
theorem f_Law_law_635 : fetch 215 635 = some (.iadd) := by decide +kernel
theorem e_Law_law_635 (a0 a1 a2 a3 : AV) (σ : aM) (x z : Int) (r : List AV)  : ev 215 635 [a0, a1, a2, a3] (aI z :: aI x :: r) σ = ev 215 636 [a0, a1, a2, a3] (aI (wr (x + z)) :: r) σ := ev_go f_Law_law_635 rfl
theorem f_Law_law_636 : fetch 215 636 = some (.iaload) := by decide +kernel
theorem e_Law_law_636 (a0 a1 a2 a3 : AV) (σ : aM) (x : Int) (r : List AV) (h : 0 ≤ x ∧ x < gI σ 34 0 (-1)) : ev 215 636 [a0, a1, a2, a3] (aI x :: aR 34 0 :: r) σ = ev 215 637 [a0, a1, a2, a3] (aI (gI σ 34 0 x) :: r) σ := ev_ldS f_Law_law_636 rfl h
theorem f_Law_law_637 : fetch 215 637 = some (.invokevirtual 57) := by decide +kernel
theorem e_Law_law_637 (a0 a1 a2 a3 : AV) (σ : aM) (s0 : Int) (s1 : Int) (s2 : Int) (s3 : Int) (s4 : Int) : ev 215 637 [a0, a1, a2, a3] [aI s4, aI s3, aI s2, aI s1, aR 0 s0] σ = evK 215 640 [a0, a1, a2, a3] [] (ev 87 0 [aR 0 s0, aI s1, aI s2, aI s3, aI s4, aU, aU] [] σ) := ev_call f_Law_law_637 rfl rfl
theorem f_Law_law_640 : fetch 215 640 = some (.aload_n 2) := by decide +kernel
theorem e_Law_law_640 (a0 a1 a3 : AV) (σ : aM) (l2 : Option (Nat × Int)) (r : List AV)  : ev 215 640 [a0, a1, aQ l2, a3] (r) σ = ev 215 641 [a0, a1, aQ l2, a3] (aQ l2 :: r) σ := ev_go f_Law_law_640 rfl
theorem f_Law_law_641 : fetch 215 641 = some (.aload_n 0) := by decide +kernel
theorem e_Law_law_641 (a1 a2 a3 : AV) (σ : aM) (l0 : Option (Nat × Int)) (r : List AV)  : ev 215 641 [aQ l0, a1, a2, a3] (r) σ = ev 215 642 [aQ l0, a1, a2, a3] (aQ l0 :: r) σ := ev_go f_Law_law_641 rfl
theorem f_Law_law_642 : fetch 215 642 = some (.iload_n 3) := by decide +kernel
theorem e_Law_law_642 (a0 a1 a2 : AV) (σ : aM) (l3 : Int) (r : List AV)  : ev 215 642 [a0, a1, a2, aI l3] (r) σ = ev 215 643 [a0, a1, a2, aI l3] (aI l3 :: r) σ := ev_go f_Law_law_642 rfl
theorem f_Law_law_643 : fetch 215 643 = some (.iconst 1) := by decide +kernel
theorem e_Law_law_643 (a0 a1 a2 a3 : AV) (σ : aM) (r : List AV)  : ev 215 643 [a0, a1, a2, a3] (r) σ = ev 215 644 [a0, a1, a2, a3] (aI 1 :: r) σ := ev_go f_Law_law_643 rfl
theorem f_Law_law_644 : fetch 215 644 = some (.iadd) := by decide +kernel
theorem e_Law_law_644 (a0 a1 a2 a3 : AV) (σ : aM) (x z : Int) (r : List AV)  : ev 215 644 [a0, a1, a2, a3] (aI z :: aI x :: r) σ = ev 215 645 [a0, a1, a2, a3] (aI (wr (x + z)) :: r) σ := ev_go f_Law_law_644 rfl
theorem f_Law_law_645 : fetch 215 645 = some (.iaload) := by decide +kernel
theorem e_Law_law_645 (a0 a1 a2 a3 : AV) (σ : aM) (x : Int) (r : List AV) (h : 0 ≤ x ∧ x < gI σ 34 0 (-1)) : ev 215 645 [a0, a1, a2, a3] (aI x :: aR 34 0 :: r) σ = ev 215 646 [a0, a1, a2, a3] (aI (gI σ 34 0 x) :: r) σ := ev_ldS f_Law_law_645 rfl h
theorem f_Law_law_646 : fetch 215 646 = some (.aload_n 0) := by decide +kernel
theorem e_Law_law_646 (a1 a2 a3 : AV) (σ : aM) (l0 : Option (Nat × Int)) (r : List AV)  : ev 215 646 [aQ l0, a1, a2, a3] (r) σ = ev 215 647 [aQ l0, a1, a2, a3] (aQ l0 :: r) σ := ev_go f_Law_law_646 rfl
theorem f_Law_law_647 : fetch 215 647 = some (.iload_n 3) := by decide +kernel
theorem e_Law_law_647 (a0 a1 a2 : AV) (σ : aM) (l3 : Int) (r : List AV)  : ev 215 647 [a0, a1, a2, aI l3] (r) σ = ev 215 648 [a0, a1, a2, aI l3] (aI l3 :: r) σ := ev_go f_Law_law_647 rfl
theorem f_Law_law_648 : fetch 215 648 = some (.iconst 2) := by decide +kernel
theorem e_Law_law_648 (a0 a1 a2 a3 : AV) (σ : aM) (r : List AV)  : ev 215 648 [a0, a1, a2, a3] (r) σ = ev 215 649 [a0, a1, a2, a3] (aI 2 :: r) σ := ev_go f_Law_law_648 rfl
theorem f_Law_law_649 : fetch 215 649 = some (.iadd) := by decide +kernel
theorem e_Law_law_649 (a0 a1 a2 a3 : AV) (σ : aM) (x z : Int) (r : List AV)  : ev 215 649 [a0, a1, a2, a3] (aI z :: aI x :: r) σ = ev 215 650 [a0, a1, a2, a3] (aI (wr (x + z)) :: r) σ := ev_go f_Law_law_649 rfl
theorem f_Law_law_650 : fetch 215 650 = some (.iaload) := by decide +kernel
theorem e_Law_law_650 (a0 a1 a2 a3 : AV) (σ : aM) (x : Int) (r : List AV) (h : 0 ≤ x ∧ x < gI σ 34 0 (-1)) : ev 215 650 [a0, a1, a2, a3] (aI x :: aR 34 0 :: r) σ = ev 215 651 [a0, a1, a2, a3] (aI (gI σ 34 0 x) :: r) σ := ev_ldS f_Law_law_650 rfl h
theorem f_Law_law_651 : fetch 215 651 = some (.aload_n 0) := by decide +kernel
theorem e_Law_law_651 (a1 a2 a3 : AV) (σ : aM) (l0 : Option (Nat × Int)) (r : List AV)  : ev 215 651 [aQ l0, a1, a2, a3] (r) σ = ev 215 652 [aQ l0, a1, a2, a3] (aQ l0 :: r) σ := ev_go f_Law_law_651 rfl
theorem f_Law_law_652 : fetch 215 652 = some (.iload_n 3) := by decide +kernel
theorem e_Law_law_652 (a0 a1 a2 : AV) (σ : aM) (l3 : Int) (r : List AV)  : ev 215 652 [a0, a1, a2, aI l3] (r) σ = ev 215 653 [a0, a1, a2, aI l3] (aI l3 :: r) σ := ev_go f_Law_law_652 rfl
theorem f_Law_law_653 : fetch 215 653 = some (.iconst 3) := by decide +kernel
theorem e_Law_law_653 (a0 a1 a2 a3 : AV) (σ : aM) (r : List AV)  : ev 215 653 [a0, a1, a2, a3] (r) σ = ev 215 654 [a0, a1, a2, a3] (aI 3 :: r) σ := ev_go f_Law_law_653 rfl
theorem f_Law_law_654 : fetch 215 654 = some (.iadd) := by decide +kernel
theorem e_Law_law_654 (a0 a1 a2 a3 : AV) (σ : aM) (x z : Int) (r : List AV)  : ev 215 654 [a0, a1, a2, a3] (aI z :: aI x :: r) σ = ev 215 655 [a0, a1, a2, a3] (aI (wr (x + z)) :: r) σ := ev_go f_Law_law_654 rfl
theorem f_Law_law_655 : fetch 215 655 = some (.iaload) := by decide +kernel
theorem e_Law_law_655 (a0 a1 a2 a3 : AV) (σ : aM) (x : Int) (r : List AV) (h : 0 ≤ x ∧ x < gI σ 34 0 (-1)) : ev 215 655 [a0, a1, a2, a3] (aI x :: aR 34 0 :: r) σ = ev 215 656 [a0, a1, a2, a3] (aI (gI σ 34 0 x) :: r) σ := ev_ldS f_Law_law_655 rfl h
theorem f_Law_law_656 : fetch 215 656 = some (.aload_n 0) := by decide +kernel
theorem e_Law_law_656 (a1 a2 a3 : AV) (σ : aM) (l0 : Option (Nat × Int)) (r : List AV)  : ev 215 656 [aQ l0, a1, a2, a3] (r) σ = ev 215 657 [aQ l0, a1, a2, a3] (aQ l0 :: r) σ := ev_go f_Law_law_656 rfl
theorem f_Law_law_657 : fetch 215 657 = some (.iload_n 3) := by decide +kernel
theorem e_Law_law_657 (a0 a1 a2 : AV) (σ : aM) (l3 : Int) (r : List AV)  : ev 215 657 [a0, a1, a2, aI l3] (r) σ = ev 215 658 [a0, a1, a2, aI l3] (aI l3 :: r) σ := ev_go f_Law_law_657 rfl
theorem f_Law_law_658 : fetch 215 658 = some (.iconst 4) := by decide +kernel
theorem e_Law_law_658 (a0 a1 a2 a3 : AV) (σ : aM) (r : List AV)  : ev 215 658 [a0, a1, a2, a3] (r) σ = ev 215 659 [a0, a1, a2, a3] (aI 4 :: r) σ := ev_go f_Law_law_658 rfl
theorem f_Law_law_659 : fetch 215 659 = some (.iadd) := by decide +kernel
theorem e_Law_law_659 (a0 a1 a2 a3 : AV) (σ : aM) (x z : Int) (r : List AV)  : ev 215 659 [a0, a1, a2, a3] (aI z :: aI x :: r) σ = ev 215 660 [a0, a1, a2, a3] (aI (wr (x + z)) :: r) σ := ev_go f_Law_law_659 rfl
theorem f_Law_law_660 : fetch 215 660 = some (.iaload) := by decide +kernel
theorem e_Law_law_660 (a0 a1 a2 a3 : AV) (σ : aM) (x : Int) (r : List AV) (h : 0 ≤ x ∧ x < gI σ 34 0 (-1)) : ev 215 660 [a0, a1, a2, a3] (aI x :: aR 34 0 :: r) σ = ev 215 661 [a0, a1, a2, a3] (aI (gI σ 34 0 x) :: r) σ := ev_ldS f_Law_law_660 rfl h
theorem f_Law_law_661 : fetch 215 661 = some (.invokevirtual 61) := by decide +kernel
theorem e_Law_law_661 (a0 a1 a2 a3 : AV) (σ : aM) (s0 : Int) (s1 : Int) (s2 : Int) (s3 : Int) (s4 : Int) (s5 : Int) : ev 215 661 [a0, a1, a2, a3] [aI s5, aI s4, aI s3, aI s2, aR 25 s1, aI s0] σ = evK 215 664 [a0, a1, a2, a3] [aI s0] (ev 166 0 [aR 25 s1, aI s2, aI s3, aI s4, aI s5, aU, aU] [] σ) := ev_call f_Law_law_661 rfl rfl
theorem f_Law_law_664 : fetch 215 664 = some (.if_icmp .eq 660) := by decide +kernel
theorem e_Law_law_664 (a0 a1 a2 a3 : AV) (σ : aM) (x z : Int) (r : List AV) : ev 215 664 [a0, a1, a2, a3] (aI z :: aI x :: r) σ = if x = z then ev 215 1324 [a0, a1, a2, a3] r σ else ev 215 667 [a0, a1, a2, a3] r σ := ev_br f_Law_law_664 rfl bc_eq
theorem f_Law_law_667 : fetch 215 667 = some (.iconst 0) := by decide +kernel
theorem e_Law_law_667 (a0 a1 a2 a3 : AV) (σ : aM) (r : List AV)  : ev 215 667 [a0, a1, a2, a3] (r) σ = ev 215 668 [a0, a1, a2, a3] (aI 0 :: r) σ := ev_go f_Law_law_667 rfl
theorem f_Law_law_668 : fetch 215 668 = some (.ireturn) := by decide +kernel
theorem e_Law_law_668 (a0 a1 a2 a3 : AV) (σ : aM) (x : Int) (h : x = 0 ∨ x = 1) : ev 215 668 [a0, a1, a2, a3] [aI x] σ = some ((some (aI x)), σ) := ev_rB f_Law_law_668 rfl h
theorem f_Law_law_669 : fetch 215 669 = some (.aload_n 1) := by decide +kernel
theorem e_Law_law_669 (a0 a2 a3 : AV) (σ : aM) (l1 : Option (Nat × Int)) (r : List AV)  : ev 215 669 [a0, aQ l1, a2, a3] (r) σ = ev 215 670 [a0, aQ l1, a2, a3] (aQ l1 :: r) σ := ev_go f_Law_law_669 rfl
theorem f_Law_law_670 : fetch 215 670 = some (.aload_n 0) := by decide +kernel
theorem e_Law_law_670 (a1 a2 a3 : AV) (σ : aM) (l0 : Option (Nat × Int)) (r : List AV)  : ev 215 670 [aQ l0, a1, a2, a3] (r) σ = ev 215 671 [aQ l0, a1, a2, a3] (aQ l0 :: r) σ := ev_go f_Law_law_670 rfl
theorem f_Law_law_671 : fetch 215 671 = some (.iload_n 3) := by decide +kernel
theorem e_Law_law_671 (a0 a1 a2 : AV) (σ : aM) (l3 : Int) (r : List AV)  : ev 215 671 [a0, a1, a2, aI l3] (r) σ = ev 215 672 [a0, a1, a2, aI l3] (aI l3 :: r) σ := ev_go f_Law_law_671 rfl
theorem f_Law_law_672 : fetch 215 672 = some (.iconst 1) := by decide +kernel
theorem e_Law_law_672 (a0 a1 a2 a3 : AV) (σ : aM) (r : List AV)  : ev 215 672 [a0, a1, a2, a3] (r) σ = ev 215 673 [a0, a1, a2, a3] (aI 1 :: r) σ := ev_go f_Law_law_672 rfl
theorem f_Law_law_673 : fetch 215 673 = some (.iadd) := by decide +kernel
theorem e_Law_law_673 (a0 a1 a2 a3 : AV) (σ : aM) (x z : Int) (r : List AV)  : ev 215 673 [a0, a1, a2, a3] (aI z :: aI x :: r) σ = ev 215 674 [a0, a1, a2, a3] (aI (wr (x + z)) :: r) σ := ev_go f_Law_law_673 rfl
theorem f_Law_law_674 : fetch 215 674 = some (.iaload) := by decide +kernel
theorem e_Law_law_674 (a0 a1 a2 a3 : AV) (σ : aM) (x : Int) (r : List AV) (h : 0 ≤ x ∧ x < gI σ 34 0 (-1)) : ev 215 674 [a0, a1, a2, a3] (aI x :: aR 34 0 :: r) σ = ev 215 675 [a0, a1, a2, a3] (aI (gI σ 34 0 x) :: r) σ := ev_ldS f_Law_law_674 rfl h
theorem f_Law_law_675 : fetch 215 675 = some (.aload_n 0) := by decide +kernel
theorem e_Law_law_675 (a1 a2 a3 : AV) (σ : aM) (l0 : Option (Nat × Int)) (r : List AV)  : ev 215 675 [aQ l0, a1, a2, a3] (r) σ = ev 215 676 [aQ l0, a1, a2, a3] (aQ l0 :: r) σ := ev_go f_Law_law_675 rfl
theorem f_Law_law_676 : fetch 215 676 = some (.iload_n 3) := by decide +kernel
theorem e_Law_law_676 (a0 a1 a2 : AV) (σ : aM) (l3 : Int) (r : List AV)  : ev 215 676 [a0, a1, a2, aI l3] (r) σ = ev 215 677 [a0, a1, a2, aI l3] (aI l3 :: r) σ := ev_go f_Law_law_676 rfl
theorem f_Law_law_677 : fetch 215 677 = some (.iconst 2) := by decide +kernel
theorem e_Law_law_677 (a0 a1 a2 a3 : AV) (σ : aM) (r : List AV)  : ev 215 677 [a0, a1, a2, a3] (r) σ = ev 215 678 [a0, a1, a2, a3] (aI 2 :: r) σ := ev_go f_Law_law_677 rfl
theorem f_Law_law_678 : fetch 215 678 = some (.iadd) := by decide +kernel
theorem e_Law_law_678 (a0 a1 a2 a3 : AV) (σ : aM) (x z : Int) (r : List AV)  : ev 215 678 [a0, a1, a2, a3] (aI z :: aI x :: r) σ = ev 215 679 [a0, a1, a2, a3] (aI (wr (x + z)) :: r) σ := ev_go f_Law_law_678 rfl
theorem f_Law_law_679 : fetch 215 679 = some (.iaload) := by decide +kernel
theorem e_Law_law_679 (a0 a1 a2 a3 : AV) (σ : aM) (x : Int) (r : List AV) (h : 0 ≤ x ∧ x < gI σ 34 0 (-1)) : ev 215 679 [a0, a1, a2, a3] (aI x :: aR 34 0 :: r) σ = ev 215 680 [a0, a1, a2, a3] (aI (gI σ 34 0 x) :: r) σ := ev_ldS f_Law_law_679 rfl h
theorem f_Law_law_680 : fetch 215 680 = some (.aload_n 0) := by decide +kernel
theorem e_Law_law_680 (a1 a2 a3 : AV) (σ : aM) (l0 : Option (Nat × Int)) (r : List AV)  : ev 215 680 [aQ l0, a1, a2, a3] (r) σ = ev 215 681 [aQ l0, a1, a2, a3] (aQ l0 :: r) σ := ev_go f_Law_law_680 rfl
theorem f_Law_law_681 : fetch 215 681 = some (.iload_n 3) := by decide +kernel
theorem e_Law_law_681 (a0 a1 a2 : AV) (σ : aM) (l3 : Int) (r : List AV)  : ev 215 681 [a0, a1, a2, aI l3] (r) σ = ev 215 682 [a0, a1, a2, aI l3] (aI l3 :: r) σ := ev_go f_Law_law_681 rfl
theorem f_Law_law_682 : fetch 215 682 = some (.iconst 3) := by decide +kernel
theorem e_Law_law_682 (a0 a1 a2 a3 : AV) (σ : aM) (r : List AV)  : ev 215 682 [a0, a1, a2, a3] (r) σ = ev 215 683 [a0, a1, a2, a3] (aI 3 :: r) σ := ev_go f_Law_law_682 rfl
theorem f_Law_law_683 : fetch 215 683 = some (.iadd) := by decide +kernel
theorem e_Law_law_683 (a0 a1 a2 a3 : AV) (σ : aM) (x z : Int) (r : List AV)  : ev 215 683 [a0, a1, a2, a3] (aI z :: aI x :: r) σ = ev 215 684 [a0, a1, a2, a3] (aI (wr (x + z)) :: r) σ := ev_go f_Law_law_683 rfl
theorem f_Law_law_684 : fetch 215 684 = some (.iaload) := by decide +kernel
theorem e_Law_law_684 (a0 a1 a2 a3 : AV) (σ : aM) (x : Int) (r : List AV) (h : 0 ≤ x ∧ x < gI σ 34 0 (-1)) : ev 215 684 [a0, a1, a2, a3] (aI x :: aR 34 0 :: r) σ = ev 215 685 [a0, a1, a2, a3] (aI (gI σ 34 0 x) :: r) σ := ev_ldS f_Law_law_684 rfl h
theorem f_Law_law_685 : fetch 215 685 = some (.aload_n 0) := by decide +kernel
theorem e_Law_law_685 (a1 a2 a3 : AV) (σ : aM) (l0 : Option (Nat × Int)) (r : List AV)  : ev 215 685 [aQ l0, a1, a2, a3] (r) σ = ev 215 686 [aQ l0, a1, a2, a3] (aQ l0 :: r) σ := ev_go f_Law_law_685 rfl
theorem f_Law_law_686 : fetch 215 686 = some (.iload_n 3) := by decide +kernel
theorem e_Law_law_686 (a0 a1 a2 : AV) (σ : aM) (l3 : Int) (r : List AV)  : ev 215 686 [a0, a1, a2, aI l3] (r) σ = ev 215 687 [a0, a1, a2, aI l3] (aI l3 :: r) σ := ev_go f_Law_law_686 rfl
theorem f_Law_law_687 : fetch 215 687 = some (.iconst 4) := by decide +kernel
theorem e_Law_law_687 (a0 a1 a2 a3 : AV) (σ : aM) (r : List AV)  : ev 215 687 [a0, a1, a2, a3] (r) σ = ev 215 688 [a0, a1, a2, a3] (aI 4 :: r) σ := ev_go f_Law_law_687 rfl
theorem f_Law_law_688 : fetch 215 688 = some (.iadd) := by decide +kernel
theorem e_Law_law_688 (a0 a1 a2 a3 : AV) (σ : aM) (x z : Int) (r : List AV)  : ev 215 688 [a0, a1, a2, a3] (aI z :: aI x :: r) σ = ev 215 689 [a0, a1, a2, a3] (aI (wr (x + z)) :: r) σ := ev_go f_Law_law_688 rfl
theorem f_Law_law_689 : fetch 215 689 = some (.iaload) := by decide +kernel
theorem e_Law_law_689 (a0 a1 a2 a3 : AV) (σ : aM) (x : Int) (r : List AV) (h : 0 ≤ x ∧ x < gI σ 34 0 (-1)) : ev 215 689 [a0, a1, a2, a3] (aI x :: aR 34 0 :: r) σ = ev 215 690 [a0, a1, a2, a3] (aI (gI σ 34 0 x) :: r) σ := ev_ldS f_Law_law_689 rfl h
theorem f_Law_law_690 : fetch 215 690 = some (.invokevirtual 62) := by decide +kernel
theorem e_Law_law_690 (a0 a1 a2 a3 : AV) (σ : aM) (s0 : Int) (s1 : Int) (s2 : Int) (s3 : Int) (s4 : Int) : ev 215 690 [a0, a1, a2, a3] [aI s4, aI s3, aI s2, aI s1, aR 0 s0] σ = evK 215 693 [a0, a1, a2, a3] [] (ev 88 0 [aR 0 s0, aI s1, aI s2, aI s3, aI s4, aU, aU] [] σ) := ev_call f_Law_law_690 rfl rfl
theorem f_Law_law_693 : fetch 215 693 = some (.aload_n 2) := by decide +kernel
theorem e_Law_law_693 (a0 a1 a3 : AV) (σ : aM) (l2 : Option (Nat × Int)) (r : List AV)  : ev 215 693 [a0, a1, aQ l2, a3] (r) σ = ev 215 694 [a0, a1, aQ l2, a3] (aQ l2 :: r) σ := ev_go f_Law_law_693 rfl
theorem f_Law_law_694 : fetch 215 694 = some (.aload_n 0) := by decide +kernel
theorem e_Law_law_694 (a1 a2 a3 : AV) (σ : aM) (l0 : Option (Nat × Int)) (r : List AV)  : ev 215 694 [aQ l0, a1, a2, a3] (r) σ = ev 215 695 [aQ l0, a1, a2, a3] (aQ l0 :: r) σ := ev_go f_Law_law_694 rfl
theorem f_Law_law_695 : fetch 215 695 = some (.iload_n 3) := by decide +kernel
theorem e_Law_law_695 (a0 a1 a2 : AV) (σ : aM) (l3 : Int) (r : List AV)  : ev 215 695 [a0, a1, a2, aI l3] (r) σ = ev 215 696 [a0, a1, a2, aI l3] (aI l3 :: r) σ := ev_go f_Law_law_695 rfl
theorem f_Law_law_696 : fetch 215 696 = some (.iconst 1) := by decide +kernel
theorem e_Law_law_696 (a0 a1 a2 a3 : AV) (σ : aM) (r : List AV)  : ev 215 696 [a0, a1, a2, a3] (r) σ = ev 215 697 [a0, a1, a2, a3] (aI 1 :: r) σ := ev_go f_Law_law_696 rfl
theorem f_Law_law_697 : fetch 215 697 = some (.iadd) := by decide +kernel
theorem e_Law_law_697 (a0 a1 a2 a3 : AV) (σ : aM) (x z : Int) (r : List AV)  : ev 215 697 [a0, a1, a2, a3] (aI z :: aI x :: r) σ = ev 215 698 [a0, a1, a2, a3] (aI (wr (x + z)) :: r) σ := ev_go f_Law_law_697 rfl
theorem f_Law_law_698 : fetch 215 698 = some (.iaload) := by decide +kernel
theorem e_Law_law_698 (a0 a1 a2 a3 : AV) (σ : aM) (x : Int) (r : List AV) (h : 0 ≤ x ∧ x < gI σ 34 0 (-1)) : ev 215 698 [a0, a1, a2, a3] (aI x :: aR 34 0 :: r) σ = ev 215 699 [a0, a1, a2, a3] (aI (gI σ 34 0 x) :: r) σ := ev_ldS f_Law_law_698 rfl h
theorem f_Law_law_699 : fetch 215 699 = some (.aload_n 0) := by decide +kernel
theorem e_Law_law_699 (a1 a2 a3 : AV) (σ : aM) (l0 : Option (Nat × Int)) (r : List AV)  : ev 215 699 [aQ l0, a1, a2, a3] (r) σ = ev 215 700 [aQ l0, a1, a2, a3] (aQ l0 :: r) σ := ev_go f_Law_law_699 rfl
theorem f_Law_law_700 : fetch 215 700 = some (.iload_n 3) := by decide +kernel
theorem e_Law_law_700 (a0 a1 a2 : AV) (σ : aM) (l3 : Int) (r : List AV)  : ev 215 700 [a0, a1, a2, aI l3] (r) σ = ev 215 701 [a0, a1, a2, aI l3] (aI l3 :: r) σ := ev_go f_Law_law_700 rfl
theorem f_Law_law_701 : fetch 215 701 = some (.iconst 2) := by decide +kernel
theorem e_Law_law_701 (a0 a1 a2 a3 : AV) (σ : aM) (r : List AV)  : ev 215 701 [a0, a1, a2, a3] (r) σ = ev 215 702 [a0, a1, a2, a3] (aI 2 :: r) σ := ev_go f_Law_law_701 rfl
theorem f_Law_law_702 : fetch 215 702 = some (.iadd) := by decide +kernel
theorem e_Law_law_702 (a0 a1 a2 a3 : AV) (σ : aM) (x z : Int) (r : List AV)  : ev 215 702 [a0, a1, a2, a3] (aI z :: aI x :: r) σ = ev 215 703 [a0, a1, a2, a3] (aI (wr (x + z)) :: r) σ := ev_go f_Law_law_702 rfl
theorem f_Law_law_703 : fetch 215 703 = some (.iaload) := by decide +kernel
theorem e_Law_law_703 (a0 a1 a2 a3 : AV) (σ : aM) (x : Int) (r : List AV) (h : 0 ≤ x ∧ x < gI σ 34 0 (-1)) : ev 215 703 [a0, a1, a2, a3] (aI x :: aR 34 0 :: r) σ = ev 215 704 [a0, a1, a2, a3] (aI (gI σ 34 0 x) :: r) σ := ev_ldS f_Law_law_703 rfl h
theorem f_Law_law_704 : fetch 215 704 = some (.aload_n 0) := by decide +kernel
theorem e_Law_law_704 (a1 a2 a3 : AV) (σ : aM) (l0 : Option (Nat × Int)) (r : List AV)  : ev 215 704 [aQ l0, a1, a2, a3] (r) σ = ev 215 705 [aQ l0, a1, a2, a3] (aQ l0 :: r) σ := ev_go f_Law_law_704 rfl
theorem f_Law_law_705 : fetch 215 705 = some (.iload_n 3) := by decide +kernel
theorem e_Law_law_705 (a0 a1 a2 : AV) (σ : aM) (l3 : Int) (r : List AV)  : ev 215 705 [a0, a1, a2, aI l3] (r) σ = ev 215 706 [a0, a1, a2, aI l3] (aI l3 :: r) σ := ev_go f_Law_law_705 rfl
theorem f_Law_law_706 : fetch 215 706 = some (.iconst 3) := by decide +kernel
theorem e_Law_law_706 (a0 a1 a2 a3 : AV) (σ : aM) (r : List AV)  : ev 215 706 [a0, a1, a2, a3] (r) σ = ev 215 707 [a0, a1, a2, a3] (aI 3 :: r) σ := ev_go f_Law_law_706 rfl
theorem f_Law_law_707 : fetch 215 707 = some (.iadd) := by decide +kernel
theorem e_Law_law_707 (a0 a1 a2 a3 : AV) (σ : aM) (x z : Int) (r : List AV)  : ev 215 707 [a0, a1, a2, a3] (aI z :: aI x :: r) σ = ev 215 708 [a0, a1, a2, a3] (aI (wr (x + z)) :: r) σ := ev_go f_Law_law_707 rfl
theorem f_Law_law_708 : fetch 215 708 = some (.iaload) := by decide +kernel
theorem e_Law_law_708 (a0 a1 a2 a3 : AV) (σ : aM) (x : Int) (r : List AV) (h : 0 ≤ x ∧ x < gI σ 34 0 (-1)) : ev 215 708 [a0, a1, a2, a3] (aI x :: aR 34 0 :: r) σ = ev 215 709 [a0, a1, a2, a3] (aI (gI σ 34 0 x) :: r) σ := ev_ldS f_Law_law_708 rfl h
theorem f_Law_law_709 : fetch 215 709 = some (.aload_n 0) := by decide +kernel
theorem e_Law_law_709 (a1 a2 a3 : AV) (σ : aM) (l0 : Option (Nat × Int)) (r : List AV)  : ev 215 709 [aQ l0, a1, a2, a3] (r) σ = ev 215 710 [aQ l0, a1, a2, a3] (aQ l0 :: r) σ := ev_go f_Law_law_709 rfl
theorem f_Law_law_710 : fetch 215 710 = some (.iload_n 3) := by decide +kernel
theorem e_Law_law_710 (a0 a1 a2 : AV) (σ : aM) (l3 : Int) (r : List AV)  : ev 215 710 [a0, a1, a2, aI l3] (r) σ = ev 215 711 [a0, a1, a2, aI l3] (aI l3 :: r) σ := ev_go f_Law_law_710 rfl
theorem f_Law_law_711 : fetch 215 711 = some (.iconst 4) := by decide +kernel
theorem e_Law_law_711 (a0 a1 a2 a3 : AV) (σ : aM) (r : List AV)  : ev 215 711 [a0, a1, a2, a3] (r) σ = ev 215 712 [a0, a1, a2, a3] (aI 4 :: r) σ := ev_go f_Law_law_711 rfl
theorem f_Law_law_712 : fetch 215 712 = some (.iadd) := by decide +kernel
theorem e_Law_law_712 (a0 a1 a2 a3 : AV) (σ : aM) (x z : Int) (r : List AV)  : ev 215 712 [a0, a1, a2, a3] (aI z :: aI x :: r) σ = ev 215 713 [a0, a1, a2, a3] (aI (wr (x + z)) :: r) σ := ev_go f_Law_law_712 rfl
theorem f_Law_law_713 : fetch 215 713 = some (.iaload) := by decide +kernel
theorem e_Law_law_713 (a0 a1 a2 a3 : AV) (σ : aM) (x : Int) (r : List AV) (h : 0 ≤ x ∧ x < gI σ 34 0 (-1)) : ev 215 713 [a0, a1, a2, a3] (aI x :: aR 34 0 :: r) σ = ev 215 714 [a0, a1, a2, a3] (aI (gI σ 34 0 x) :: r) σ := ev_ldS f_Law_law_713 rfl h
theorem f_Law_law_714 : fetch 215 714 = some (.invokevirtual 65) := by decide +kernel
theorem e_Law_law_714 (a0 a1 a2 a3 : AV) (σ : aM) (s0 : Int) (s1 : Int) (s2 : Int) (s3 : Int) (s4 : Int) (s5 : Int) : ev 215 714 [a0, a1, a2, a3] [aI s5, aI s4, aI s3, aI s2, aR 25 s1, aI s0] σ = evK 215 717 [a0, a1, a2, a3] [aI s0] (ev 167 0 [aR 25 s1, aI s2, aI s3, aI s4, aI s5, aU, aU] [] σ) := ev_call f_Law_law_714 rfl rfl
theorem f_Law_law_717 : fetch 215 717 = some (.if_icmp .eq 607) := by decide +kernel
theorem e_Law_law_717 (a0 a1 a2 a3 : AV) (σ : aM) (x z : Int) (r : List AV) : ev 215 717 [a0, a1, a2, a3] (aI z :: aI x :: r) σ = if x = z then ev 215 1324 [a0, a1, a2, a3] r σ else ev 215 720 [a0, a1, a2, a3] r σ := ev_br f_Law_law_717 rfl bc_eq
theorem f_Law_law_720 : fetch 215 720 = some (.iconst 0) := by decide +kernel
theorem e_Law_law_720 (a0 a1 a2 a3 : AV) (σ : aM) (r : List AV)  : ev 215 720 [a0, a1, a2, a3] (r) σ = ev 215 721 [a0, a1, a2, a3] (aI 0 :: r) σ := ev_go f_Law_law_720 rfl
theorem f_Law_law_721 : fetch 215 721 = some (.ireturn) := by decide +kernel
theorem e_Law_law_721 (a0 a1 a2 a3 : AV) (σ : aM) (x : Int) (h : x = 0 ∨ x = 1) : ev 215 721 [a0, a1, a2, a3] [aI x] σ = some ((some (aI x)), σ) := ev_rB f_Law_law_721 rfl h
theorem f_Law_law_722 : fetch 215 722 = some (.aload_n 1) := by decide +kernel
theorem e_Law_law_722 (a0 a2 a3 : AV) (σ : aM) (l1 : Option (Nat × Int)) (r : List AV)  : ev 215 722 [a0, aQ l1, a2, a3] (r) σ = ev 215 723 [a0, aQ l1, a2, a3] (aQ l1 :: r) σ := ev_go f_Law_law_722 rfl
theorem f_Law_law_723 : fetch 215 723 = some (.aload_n 0) := by decide +kernel
theorem e_Law_law_723 (a1 a2 a3 : AV) (σ : aM) (l0 : Option (Nat × Int)) (r : List AV)  : ev 215 723 [aQ l0, a1, a2, a3] (r) σ = ev 215 724 [aQ l0, a1, a2, a3] (aQ l0 :: r) σ := ev_go f_Law_law_723 rfl
theorem f_Law_law_724 : fetch 215 724 = some (.iload_n 3) := by decide +kernel
theorem e_Law_law_724 (a0 a1 a2 : AV) (σ : aM) (l3 : Int) (r : List AV)  : ev 215 724 [a0, a1, a2, aI l3] (r) σ = ev 215 725 [a0, a1, a2, aI l3] (aI l3 :: r) σ := ev_go f_Law_law_724 rfl
theorem f_Law_law_725 : fetch 215 725 = some (.iconst 1) := by decide +kernel
theorem e_Law_law_725 (a0 a1 a2 a3 : AV) (σ : aM) (r : List AV)  : ev 215 725 [a0, a1, a2, a3] (r) σ = ev 215 726 [a0, a1, a2, a3] (aI 1 :: r) σ := ev_go f_Law_law_725 rfl
theorem f_Law_law_726 : fetch 215 726 = some (.iadd) := by decide +kernel
theorem e_Law_law_726 (a0 a1 a2 a3 : AV) (σ : aM) (x z : Int) (r : List AV)  : ev 215 726 [a0, a1, a2, a3] (aI z :: aI x :: r) σ = ev 215 727 [a0, a1, a2, a3] (aI (wr (x + z)) :: r) σ := ev_go f_Law_law_726 rfl
theorem f_Law_law_727 : fetch 215 727 = some (.iaload) := by decide +kernel
theorem e_Law_law_727 (a0 a1 a2 a3 : AV) (σ : aM) (x : Int) (r : List AV) (h : 0 ≤ x ∧ x < gI σ 34 0 (-1)) : ev 215 727 [a0, a1, a2, a3] (aI x :: aR 34 0 :: r) σ = ev 215 728 [a0, a1, a2, a3] (aI (gI σ 34 0 x) :: r) σ := ev_ldS f_Law_law_727 rfl h
theorem f_Law_law_728 : fetch 215 728 = some (.aload_n 0) := by decide +kernel
theorem e_Law_law_728 (a1 a2 a3 : AV) (σ : aM) (l0 : Option (Nat × Int)) (r : List AV)  : ev 215 728 [aQ l0, a1, a2, a3] (r) σ = ev 215 729 [aQ l0, a1, a2, a3] (aQ l0 :: r) σ := ev_go f_Law_law_728 rfl
theorem f_Law_law_729 : fetch 215 729 = some (.iload_n 3) := by decide +kernel
theorem e_Law_law_729 (a0 a1 a2 : AV) (σ : aM) (l3 : Int) (r : List AV)  : ev 215 729 [a0, a1, a2, aI l3] (r) σ = ev 215 730 [a0, a1, a2, aI l3] (aI l3 :: r) σ := ev_go f_Law_law_729 rfl
theorem f_Law_law_730 : fetch 215 730 = some (.iconst 2) := by decide +kernel
theorem e_Law_law_730 (a0 a1 a2 a3 : AV) (σ : aM) (r : List AV)  : ev 215 730 [a0, a1, a2, a3] (r) σ = ev 215 731 [a0, a1, a2, a3] (aI 2 :: r) σ := ev_go f_Law_law_730 rfl
theorem f_Law_law_731 : fetch 215 731 = some (.iadd) := by decide +kernel
theorem e_Law_law_731 (a0 a1 a2 a3 : AV) (σ : aM) (x z : Int) (r : List AV)  : ev 215 731 [a0, a1, a2, a3] (aI z :: aI x :: r) σ = ev 215 732 [a0, a1, a2, a3] (aI (wr (x + z)) :: r) σ := ev_go f_Law_law_731 rfl
theorem f_Law_law_732 : fetch 215 732 = some (.iaload) := by decide +kernel
theorem e_Law_law_732 (a0 a1 a2 a3 : AV) (σ : aM) (x : Int) (r : List AV) (h : 0 ≤ x ∧ x < gI σ 34 0 (-1)) : ev 215 732 [a0, a1, a2, a3] (aI x :: aR 34 0 :: r) σ = ev 215 733 [a0, a1, a2, a3] (aI (gI σ 34 0 x) :: r) σ := ev_ldS f_Law_law_732 rfl h
theorem f_Law_law_733 : fetch 215 733 = some (.aload_n 0) := by decide +kernel
theorem e_Law_law_733 (a1 a2 a3 : AV) (σ : aM) (l0 : Option (Nat × Int)) (r : List AV)  : ev 215 733 [aQ l0, a1, a2, a3] (r) σ = ev 215 734 [aQ l0, a1, a2, a3] (aQ l0 :: r) σ := ev_go f_Law_law_733 rfl
theorem f_Law_law_734 : fetch 215 734 = some (.iload_n 3) := by decide +kernel
theorem e_Law_law_734 (a0 a1 a2 : AV) (σ : aM) (l3 : Int) (r : List AV)  : ev 215 734 [a0, a1, a2, aI l3] (r) σ = ev 215 735 [a0, a1, a2, aI l3] (aI l3 :: r) σ := ev_go f_Law_law_734 rfl
theorem f_Law_law_735 : fetch 215 735 = some (.iconst 3) := by decide +kernel
theorem e_Law_law_735 (a0 a1 a2 a3 : AV) (σ : aM) (r : List AV)  : ev 215 735 [a0, a1, a2, a3] (r) σ = ev 215 736 [a0, a1, a2, a3] (aI 3 :: r) σ := ev_go f_Law_law_735 rfl
theorem f_Law_law_736 : fetch 215 736 = some (.iadd) := by decide +kernel
theorem e_Law_law_736 (a0 a1 a2 a3 : AV) (σ : aM) (x z : Int) (r : List AV)  : ev 215 736 [a0, a1, a2, a3] (aI z :: aI x :: r) σ = ev 215 737 [a0, a1, a2, a3] (aI (wr (x + z)) :: r) σ := ev_go f_Law_law_736 rfl
theorem f_Law_law_737 : fetch 215 737 = some (.iaload) := by decide +kernel
theorem e_Law_law_737 (a0 a1 a2 a3 : AV) (σ : aM) (x : Int) (r : List AV) (h : 0 ≤ x ∧ x < gI σ 34 0 (-1)) : ev 215 737 [a0, a1, a2, a3] (aI x :: aR 34 0 :: r) σ = ev 215 738 [a0, a1, a2, a3] (aI (gI σ 34 0 x) :: r) σ := ev_ldS f_Law_law_737 rfl h
theorem f_Law_law_738 : fetch 215 738 = some (.invokevirtual 66) := by decide +kernel
theorem e_Law_law_738 (a0 a1 a2 a3 : AV) (σ : aM) (s0 : Int) (s1 : Int) (s2 : Int) (s3 : Int) : ev 215 738 [a0, a1, a2, a3] [aI s3, aI s2, aI s1, aR 0 s0] σ = evK 215 741 [a0, a1, a2, a3] [] (ev 89 0 [aR 0 s0, aI s1, aI s2, aI s3] [] σ) := ev_call f_Law_law_738 rfl rfl
theorem f_Law_law_741 : fetch 215 741 = some (.aload_n 2) := by decide +kernel
theorem e_Law_law_741 (a0 a1 a3 : AV) (σ : aM) (l2 : Option (Nat × Int)) (r : List AV)  : ev 215 741 [a0, a1, aQ l2, a3] (r) σ = ev 215 742 [a0, a1, aQ l2, a3] (aQ l2 :: r) σ := ev_go f_Law_law_741 rfl
theorem f_Law_law_742 : fetch 215 742 = some (.aload_n 0) := by decide +kernel
theorem e_Law_law_742 (a1 a2 a3 : AV) (σ : aM) (l0 : Option (Nat × Int)) (r : List AV)  : ev 215 742 [aQ l0, a1, a2, a3] (r) σ = ev 215 743 [aQ l0, a1, a2, a3] (aQ l0 :: r) σ := ev_go f_Law_law_742 rfl
theorem f_Law_law_743 : fetch 215 743 = some (.iload_n 3) := by decide +kernel
theorem e_Law_law_743 (a0 a1 a2 : AV) (σ : aM) (l3 : Int) (r : List AV)  : ev 215 743 [a0, a1, a2, aI l3] (r) σ = ev 215 744 [a0, a1, a2, aI l3] (aI l3 :: r) σ := ev_go f_Law_law_743 rfl
theorem f_Law_law_744 : fetch 215 744 = some (.iconst 1) := by decide +kernel
theorem e_Law_law_744 (a0 a1 a2 a3 : AV) (σ : aM) (r : List AV)  : ev 215 744 [a0, a1, a2, a3] (r) σ = ev 215 745 [a0, a1, a2, a3] (aI 1 :: r) σ := ev_go f_Law_law_744 rfl
theorem f_Law_law_745 : fetch 215 745 = some (.iadd) := by decide +kernel
theorem e_Law_law_745 (a0 a1 a2 a3 : AV) (σ : aM) (x z : Int) (r : List AV)  : ev 215 745 [a0, a1, a2, a3] (aI z :: aI x :: r) σ = ev 215 746 [a0, a1, a2, a3] (aI (wr (x + z)) :: r) σ := ev_go f_Law_law_745 rfl
theorem f_Law_law_746 : fetch 215 746 = some (.iaload) := by decide +kernel
theorem e_Law_law_746 (a0 a1 a2 a3 : AV) (σ : aM) (x : Int) (r : List AV) (h : 0 ≤ x ∧ x < gI σ 34 0 (-1)) : ev 215 746 [a0, a1, a2, a3] (aI x :: aR 34 0 :: r) σ = ev 215 747 [a0, a1, a2, a3] (aI (gI σ 34 0 x) :: r) σ := ev_ldS f_Law_law_746 rfl h
theorem f_Law_law_747 : fetch 215 747 = some (.aload_n 0) := by decide +kernel
theorem e_Law_law_747 (a1 a2 a3 : AV) (σ : aM) (l0 : Option (Nat × Int)) (r : List AV)  : ev 215 747 [aQ l0, a1, a2, a3] (r) σ = ev 215 748 [aQ l0, a1, a2, a3] (aQ l0 :: r) σ := ev_go f_Law_law_747 rfl
theorem f_Law_law_748 : fetch 215 748 = some (.iload_n 3) := by decide +kernel
theorem e_Law_law_748 (a0 a1 a2 : AV) (σ : aM) (l3 : Int) (r : List AV)  : ev 215 748 [a0, a1, a2, aI l3] (r) σ = ev 215 749 [a0, a1, a2, aI l3] (aI l3 :: r) σ := ev_go f_Law_law_748 rfl
theorem f_Law_law_749 : fetch 215 749 = some (.iconst 2) := by decide +kernel
theorem e_Law_law_749 (a0 a1 a2 a3 : AV) (σ : aM) (r : List AV)  : ev 215 749 [a0, a1, a2, a3] (r) σ = ev 215 750 [a0, a1, a2, a3] (aI 2 :: r) σ := ev_go f_Law_law_749 rfl
theorem f_Law_law_750 : fetch 215 750 = some (.iadd) := by decide +kernel
theorem e_Law_law_750 (a0 a1 a2 a3 : AV) (σ : aM) (x z : Int) (r : List AV)  : ev 215 750 [a0, a1, a2, a3] (aI z :: aI x :: r) σ = ev 215 751 [a0, a1, a2, a3] (aI (wr (x + z)) :: r) σ := ev_go f_Law_law_750 rfl
theorem f_Law_law_751 : fetch 215 751 = some (.iaload) := by decide +kernel
theorem e_Law_law_751 (a0 a1 a2 a3 : AV) (σ : aM) (x : Int) (r : List AV) (h : 0 ≤ x ∧ x < gI σ 34 0 (-1)) : ev 215 751 [a0, a1, a2, a3] (aI x :: aR 34 0 :: r) σ = ev 215 752 [a0, a1, a2, a3] (aI (gI σ 34 0 x) :: r) σ := ev_ldS f_Law_law_751 rfl h
theorem f_Law_law_752 : fetch 215 752 = some (.aload_n 0) := by decide +kernel
theorem e_Law_law_752 (a1 a2 a3 : AV) (σ : aM) (l0 : Option (Nat × Int)) (r : List AV)  : ev 215 752 [aQ l0, a1, a2, a3] (r) σ = ev 215 753 [aQ l0, a1, a2, a3] (aQ l0 :: r) σ := ev_go f_Law_law_752 rfl
theorem f_Law_law_753 : fetch 215 753 = some (.iload_n 3) := by decide +kernel
theorem e_Law_law_753 (a0 a1 a2 : AV) (σ : aM) (l3 : Int) (r : List AV)  : ev 215 753 [a0, a1, a2, aI l3] (r) σ = ev 215 754 [a0, a1, a2, aI l3] (aI l3 :: r) σ := ev_go f_Law_law_753 rfl
theorem f_Law_law_754 : fetch 215 754 = some (.iconst 3) := by decide +kernel
theorem e_Law_law_754 (a0 a1 a2 a3 : AV) (σ : aM) (r : List AV)  : ev 215 754 [a0, a1, a2, a3] (r) σ = ev 215 755 [a0, a1, a2, a3] (aI 3 :: r) σ := ev_go f_Law_law_754 rfl
theorem f_Law_law_755 : fetch 215 755 = some (.iadd) := by decide +kernel
theorem e_Law_law_755 (a0 a1 a2 a3 : AV) (σ : aM) (x z : Int) (r : List AV)  : ev 215 755 [a0, a1, a2, a3] (aI z :: aI x :: r) σ = ev 215 756 [a0, a1, a2, a3] (aI (wr (x + z)) :: r) σ := ev_go f_Law_law_755 rfl
theorem f_Law_law_756 : fetch 215 756 = some (.iaload) := by decide +kernel
theorem e_Law_law_756 (a0 a1 a2 a3 : AV) (σ : aM) (x : Int) (r : List AV) (h : 0 ≤ x ∧ x < gI σ 34 0 (-1)) : ev 215 756 [a0, a1, a2, a3] (aI x :: aR 34 0 :: r) σ = ev 215 757 [a0, a1, a2, a3] (aI (gI σ 34 0 x) :: r) σ := ev_ldS f_Law_law_756 rfl h
theorem f_Law_law_757 : fetch 215 757 = some (.invokevirtual 69) := by decide +kernel
theorem e_Law_law_757 (a0 a1 a2 a3 : AV) (σ : aM) (s0 : Int) (s1 : Int) (s2 : Int) (s3 : Int) (s4 : Int) : ev 215 757 [a0, a1, a2, a3] [aI s4, aI s3, aI s2, aR 25 s1, aI s0] σ = evK 215 760 [a0, a1, a2, a3] [aI s0] (ev 168 0 [aR 25 s1, aI s2, aI s3, aI s4, aU] [] σ) := ev_call f_Law_law_757 rfl rfl
theorem f_Law_law_760 : fetch 215 760 = some (.if_icmp .eq 564) := by decide +kernel
theorem e_Law_law_760 (a0 a1 a2 a3 : AV) (σ : aM) (x z : Int) (r : List AV) : ev 215 760 [a0, a1, a2, a3] (aI z :: aI x :: r) σ = if x = z then ev 215 1324 [a0, a1, a2, a3] r σ else ev 215 763 [a0, a1, a2, a3] r σ := ev_br f_Law_law_760 rfl bc_eq
theorem f_Law_law_763 : fetch 215 763 = some (.iconst 0) := by decide +kernel
theorem e_Law_law_763 (a0 a1 a2 a3 : AV) (σ : aM) (r : List AV)  : ev 215 763 [a0, a1, a2, a3] (r) σ = ev 215 764 [a0, a1, a2, a3] (aI 0 :: r) σ := ev_go f_Law_law_763 rfl
theorem f_Law_law_764 : fetch 215 764 = some (.ireturn) := by decide +kernel
theorem e_Law_law_764 (a0 a1 a2 a3 : AV) (σ : aM) (x : Int) (h : x = 0 ∨ x = 1) : ev 215 764 [a0, a1, a2, a3] [aI x] σ = some ((some (aI x)), σ) := ev_rB f_Law_law_764 rfl h
theorem f_Law_law_765 : fetch 215 765 = some (.aload_n 1) := by decide +kernel
theorem e_Law_law_765 (a0 a2 a3 : AV) (σ : aM) (l1 : Option (Nat × Int)) (r : List AV)  : ev 215 765 [a0, aQ l1, a2, a3] (r) σ = ev 215 766 [a0, aQ l1, a2, a3] (aQ l1 :: r) σ := ev_go f_Law_law_765 rfl
theorem f_Law_law_766 : fetch 215 766 = some (.aload_n 0) := by decide +kernel
theorem e_Law_law_766 (a1 a2 a3 : AV) (σ : aM) (l0 : Option (Nat × Int)) (r : List AV)  : ev 215 766 [aQ l0, a1, a2, a3] (r) σ = ev 215 767 [aQ l0, a1, a2, a3] (aQ l0 :: r) σ := ev_go f_Law_law_766 rfl
theorem f_Law_law_767 : fetch 215 767 = some (.iload_n 3) := by decide +kernel
theorem e_Law_law_767 (a0 a1 a2 : AV) (σ : aM) (l3 : Int) (r : List AV)  : ev 215 767 [a0, a1, a2, aI l3] (r) σ = ev 215 768 [a0, a1, a2, aI l3] (aI l3 :: r) σ := ev_go f_Law_law_767 rfl
theorem f_Law_law_768 : fetch 215 768 = some (.iconst 1) := by decide +kernel
theorem e_Law_law_768 (a0 a1 a2 a3 : AV) (σ : aM) (r : List AV)  : ev 215 768 [a0, a1, a2, a3] (r) σ = ev 215 769 [a0, a1, a2, a3] (aI 1 :: r) σ := ev_go f_Law_law_768 rfl
theorem f_Law_law_769 : fetch 215 769 = some (.iadd) := by decide +kernel
theorem e_Law_law_769 (a0 a1 a2 a3 : AV) (σ : aM) (x z : Int) (r : List AV)  : ev 215 769 [a0, a1, a2, a3] (aI z :: aI x :: r) σ = ev 215 770 [a0, a1, a2, a3] (aI (wr (x + z)) :: r) σ := ev_go f_Law_law_769 rfl
theorem f_Law_law_770 : fetch 215 770 = some (.iaload) := by decide +kernel
theorem e_Law_law_770 (a0 a1 a2 a3 : AV) (σ : aM) (x : Int) (r : List AV) (h : 0 ≤ x ∧ x < gI σ 34 0 (-1)) : ev 215 770 [a0, a1, a2, a3] (aI x :: aR 34 0 :: r) σ = ev 215 771 [a0, a1, a2, a3] (aI (gI σ 34 0 x) :: r) σ := ev_ldS f_Law_law_770 rfl h
theorem f_Law_law_771 : fetch 215 771 = some (.invokevirtual 70) := by decide +kernel
theorem e_Law_law_771 (a0 a1 a2 a3 : AV) (σ : aM) (s0 : Int) (s1 : Int) : ev 215 771 [a0, a1, a2, a3] [aI s1, aR 0 s0] σ = evK 215 774 [a0, a1, a2, a3] [] (ev 90 0 [aR 0 s0, aI s1, aU, aU, aU] [] σ) := ev_call f_Law_law_771 rfl rfl
theorem f_Law_law_774 : fetch 215 774 = some (.aload_n 2) := by decide +kernel
theorem e_Law_law_774 (a0 a1 a3 : AV) (σ : aM) (l2 : Option (Nat × Int)) (r : List AV)  : ev 215 774 [a0, a1, aQ l2, a3] (r) σ = ev 215 775 [a0, a1, aQ l2, a3] (aQ l2 :: r) σ := ev_go f_Law_law_774 rfl
theorem f_Law_law_775 : fetch 215 775 = some (.aload_n 0) := by decide +kernel
theorem e_Law_law_775 (a1 a2 a3 : AV) (σ : aM) (l0 : Option (Nat × Int)) (r : List AV)  : ev 215 775 [aQ l0, a1, a2, a3] (r) σ = ev 215 776 [aQ l0, a1, a2, a3] (aQ l0 :: r) σ := ev_go f_Law_law_775 rfl
theorem f_Law_law_776 : fetch 215 776 = some (.iload_n 3) := by decide +kernel
theorem e_Law_law_776 (a0 a1 a2 : AV) (σ : aM) (l3 : Int) (r : List AV)  : ev 215 776 [a0, a1, a2, aI l3] (r) σ = ev 215 777 [a0, a1, a2, aI l3] (aI l3 :: r) σ := ev_go f_Law_law_776 rfl
theorem f_Law_law_777 : fetch 215 777 = some (.iconst 1) := by decide +kernel
theorem e_Law_law_777 (a0 a1 a2 a3 : AV) (σ : aM) (r : List AV)  : ev 215 777 [a0, a1, a2, a3] (r) σ = ev 215 778 [a0, a1, a2, a3] (aI 1 :: r) σ := ev_go f_Law_law_777 rfl
theorem f_Law_law_778 : fetch 215 778 = some (.iadd) := by decide +kernel
theorem e_Law_law_778 (a0 a1 a2 a3 : AV) (σ : aM) (x z : Int) (r : List AV)  : ev 215 778 [a0, a1, a2, a3] (aI z :: aI x :: r) σ = ev 215 779 [a0, a1, a2, a3] (aI (wr (x + z)) :: r) σ := ev_go f_Law_law_778 rfl
theorem f_Law_law_779 : fetch 215 779 = some (.iaload) := by decide +kernel
theorem e_Law_law_779 (a0 a1 a2 a3 : AV) (σ : aM) (x : Int) (r : List AV) (h : 0 ≤ x ∧ x < gI σ 34 0 (-1)) : ev 215 779 [a0, a1, a2, a3] (aI x :: aR 34 0 :: r) σ = ev 215 780 [a0, a1, a2, a3] (aI (gI σ 34 0 x) :: r) σ := ev_ldS f_Law_law_779 rfl h
theorem f_Law_law_780 : fetch 215 780 = some (.invokevirtual 73) := by decide +kernel
theorem e_Law_law_780 (a0 a1 a2 a3 : AV) (σ : aM) (s0 : Int) (s1 : Int) (s2 : Int) : ev 215 780 [a0, a1, a2, a3] [aI s2, aR 25 s1, aI s0] σ = evK 215 783 [a0, a1, a2, a3] [aI s0] (ev 176 0 [aR 25 s1, aI s2, aU, aU] [] σ) := ev_call f_Law_law_780 rfl rfl
theorem f_Law_law_783 : fetch 215 783 = some (.if_icmp .eq 541) := by decide +kernel
theorem e_Law_law_783 (a0 a1 a2 a3 : AV) (σ : aM) (x z : Int) (r : List AV) : ev 215 783 [a0, a1, a2, a3] (aI z :: aI x :: r) σ = if x = z then ev 215 1324 [a0, a1, a2, a3] r σ else ev 215 786 [a0, a1, a2, a3] r σ := ev_br f_Law_law_783 rfl bc_eq
theorem f_Law_law_786 : fetch 215 786 = some (.iconst 0) := by decide +kernel
theorem e_Law_law_786 (a0 a1 a2 a3 : AV) (σ : aM) (r : List AV)  : ev 215 786 [a0, a1, a2, a3] (r) σ = ev 215 787 [a0, a1, a2, a3] (aI 0 :: r) σ := ev_go f_Law_law_786 rfl
theorem f_Law_law_787 : fetch 215 787 = some (.ireturn) := by decide +kernel
theorem e_Law_law_787 (a0 a1 a2 a3 : AV) (σ : aM) (x : Int) (h : x = 0 ∨ x = 1) : ev 215 787 [a0, a1, a2, a3] [aI x] σ = some ((some (aI x)), σ) := ev_rB f_Law_law_787 rfl h
theorem f_Law_law_788 : fetch 215 788 = some (.aload_n 1) := by decide +kernel
theorem e_Law_law_788 (a0 a2 a3 : AV) (σ : aM) (l1 : Option (Nat × Int)) (r : List AV)  : ev 215 788 [a0, aQ l1, a2, a3] (r) σ = ev 215 789 [a0, aQ l1, a2, a3] (aQ l1 :: r) σ := ev_go f_Law_law_788 rfl
theorem f_Law_law_789 : fetch 215 789 = some (.invokevirtual 74) := by decide +kernel
theorem e_Law_law_789 (a0 a1 a2 a3 : AV) (σ : aM) (s0 : Int) : ev 215 789 [a0, a1, a2, a3] [aR 0 s0] σ = evK 215 792 [a0, a1, a2, a3] [] (ev 91 0 [aR 0 s0] [] σ) := ev_call f_Law_law_789 rfl rfl
theorem f_Law_law_792 : fetch 215 792 = some (.aload_n 2) := by decide +kernel
theorem e_Law_law_792 (a0 a1 a3 : AV) (σ : aM) (l2 : Option (Nat × Int)) (r : List AV)  : ev 215 792 [a0, a1, aQ l2, a3] (r) σ = ev 215 793 [a0, a1, aQ l2, a3] (aQ l2 :: r) σ := ev_go f_Law_law_792 rfl
theorem f_Law_law_793 : fetch 215 793 = some (.invokevirtual 78) := by decide +kernel
theorem e_Law_law_793 (a0 a1 a2 a3 : AV) (σ : aM) (s0 : Int) (s1 : Int) : ev 215 793 [a0, a1, a2, a3] [aR 25 s1, aI s0] σ = evK 215 796 [a0, a1, a2, a3] [aI s0] (ev 177 0 [aR 25 s1] [] σ) := ev_call f_Law_law_793 rfl rfl
theorem f_Law_law_796 : fetch 215 796 = some (.if_icmp .eq 528) := by decide +kernel
theorem e_Law_law_796 (a0 a1 a2 a3 : AV) (σ : aM) (x z : Int) (r : List AV) : ev 215 796 [a0, a1, a2, a3] (aI z :: aI x :: r) σ = if x = z then ev 215 1324 [a0, a1, a2, a3] r σ else ev 215 799 [a0, a1, a2, a3] r σ := ev_br f_Law_law_796 rfl bc_eq
theorem f_Law_law_799 : fetch 215 799 = some (.iconst 0) := by decide +kernel
theorem e_Law_law_799 (a0 a1 a2 a3 : AV) (σ : aM) (r : List AV)  : ev 215 799 [a0, a1, a2, a3] (r) σ = ev 215 800 [a0, a1, a2, a3] (aI 0 :: r) σ := ev_go f_Law_law_799 rfl
theorem f_Law_law_800 : fetch 215 800 = some (.ireturn) := by decide +kernel
theorem e_Law_law_800 (a0 a1 a2 a3 : AV) (σ : aM) (x : Int) (h : x = 0 ∨ x = 1) : ev 215 800 [a0, a1, a2, a3] [aI x] σ = some ((some (aI x)), σ) := ev_rB f_Law_law_800 rfl h
theorem f_Law_law_801 : fetch 215 801 = some (.aload_n 1) := by decide +kernel
theorem e_Law_law_801 (a0 a2 a3 : AV) (σ : aM) (l1 : Option (Nat × Int)) (r : List AV)  : ev 215 801 [a0, aQ l1, a2, a3] (r) σ = ev 215 802 [a0, aQ l1, a2, a3] (aQ l1 :: r) σ := ev_go f_Law_law_801 rfl
theorem f_Law_law_802 : fetch 215 802 = some (.aload_n 0) := by decide +kernel
theorem e_Law_law_802 (a1 a2 a3 : AV) (σ : aM) (l0 : Option (Nat × Int)) (r : List AV)  : ev 215 802 [aQ l0, a1, a2, a3] (r) σ = ev 215 803 [aQ l0, a1, a2, a3] (aQ l0 :: r) σ := ev_go f_Law_law_802 rfl
theorem f_Law_law_803 : fetch 215 803 = some (.iload_n 3) := by decide +kernel
theorem e_Law_law_803 (a0 a1 a2 : AV) (σ : aM) (l3 : Int) (r : List AV)  : ev 215 803 [a0, a1, a2, aI l3] (r) σ = ev 215 804 [a0, a1, a2, aI l3] (aI l3 :: r) σ := ev_go f_Law_law_803 rfl
theorem f_Law_law_804 : fetch 215 804 = some (.iconst 1) := by decide +kernel
theorem e_Law_law_804 (a0 a1 a2 a3 : AV) (σ : aM) (r : List AV)  : ev 215 804 [a0, a1, a2, a3] (r) σ = ev 215 805 [a0, a1, a2, a3] (aI 1 :: r) σ := ev_go f_Law_law_804 rfl
theorem f_Law_law_805 : fetch 215 805 = some (.iadd) := by decide +kernel
theorem e_Law_law_805 (a0 a1 a2 a3 : AV) (σ : aM) (x z : Int) (r : List AV)  : ev 215 805 [a0, a1, a2, a3] (aI z :: aI x :: r) σ = ev 215 806 [a0, a1, a2, a3] (aI (wr (x + z)) :: r) σ := ev_go f_Law_law_805 rfl
theorem f_Law_law_806 : fetch 215 806 = some (.iaload) := by decide +kernel
theorem e_Law_law_806 (a0 a1 a2 a3 : AV) (σ : aM) (x : Int) (r : List AV) (h : 0 ≤ x ∧ x < gI σ 34 0 (-1)) : ev 215 806 [a0, a1, a2, a3] (aI x :: aR 34 0 :: r) σ = ev 215 807 [a0, a1, a2, a3] (aI (gI σ 34 0 x) :: r) σ := ev_ldS f_Law_law_806 rfl h
theorem f_Law_law_807 : fetch 215 807 = some (.invokevirtual 79) := by decide +kernel
theorem e_Law_law_807 (a0 a1 a2 a3 : AV) (σ : aM) (s0 : Int) (s1 : Int) : ev 215 807 [a0, a1, a2, a3] [aI s1, aR 0 s0] σ = evK 215 810 [a0, a1, a2, a3] [] (ev 92 0 [aR 0 s0, aI s1, aU] [] σ) := ev_call f_Law_law_807 rfl rfl
theorem f_Law_law_810 : fetch 215 810 = some (.aload_n 2) := by decide +kernel
theorem e_Law_law_810 (a0 a1 a3 : AV) (σ : aM) (l2 : Option (Nat × Int)) (r : List AV)  : ev 215 810 [a0, a1, aQ l2, a3] (r) σ = ev 215 811 [a0, a1, aQ l2, a3] (aQ l2 :: r) σ := ev_go f_Law_law_810 rfl
theorem f_Law_law_811 : fetch 215 811 = some (.aload_n 0) := by decide +kernel
theorem e_Law_law_811 (a1 a2 a3 : AV) (σ : aM) (l0 : Option (Nat × Int)) (r : List AV)  : ev 215 811 [aQ l0, a1, a2, a3] (r) σ = ev 215 812 [aQ l0, a1, a2, a3] (aQ l0 :: r) σ := ev_go f_Law_law_811 rfl
theorem f_Law_law_812 : fetch 215 812 = some (.iload_n 3) := by decide +kernel
theorem e_Law_law_812 (a0 a1 a2 : AV) (σ : aM) (l3 : Int) (r : List AV)  : ev 215 812 [a0, a1, a2, aI l3] (r) σ = ev 215 813 [a0, a1, a2, aI l3] (aI l3 :: r) σ := ev_go f_Law_law_812 rfl
theorem f_Law_law_813 : fetch 215 813 = some (.iconst 1) := by decide +kernel
theorem e_Law_law_813 (a0 a1 a2 a3 : AV) (σ : aM) (r : List AV)  : ev 215 813 [a0, a1, a2, a3] (r) σ = ev 215 814 [a0, a1, a2, a3] (aI 1 :: r) σ := ev_go f_Law_law_813 rfl
theorem f_Law_law_814 : fetch 215 814 = some (.iadd) := by decide +kernel
theorem e_Law_law_814 (a0 a1 a2 a3 : AV) (σ : aM) (x z : Int) (r : List AV)  : ev 215 814 [a0, a1, a2, a3] (aI z :: aI x :: r) σ = ev 215 815 [a0, a1, a2, a3] (aI (wr (x + z)) :: r) σ := ev_go f_Law_law_814 rfl
theorem f_Law_law_815 : fetch 215 815 = some (.iaload) := by decide +kernel
theorem e_Law_law_815 (a0 a1 a2 a3 : AV) (σ : aM) (x : Int) (r : List AV) (h : 0 ≤ x ∧ x < gI σ 34 0 (-1)) : ev 215 815 [a0, a1, a2, a3] (aI x :: aR 34 0 :: r) σ = ev 215 816 [a0, a1, a2, a3] (aI (gI σ 34 0 x) :: r) σ := ev_ldS f_Law_law_815 rfl h
theorem f_Law_law_816 : fetch 215 816 = some (.invokevirtual 82) := by decide +kernel
theorem e_Law_law_816 (a0 a1 a2 a3 : AV) (σ : aM) (s0 : Int) (s1 : Int) (s2 : Int) : ev 215 816 [a0, a1, a2, a3] [aI s2, aR 25 s1, aI s0] σ = evK 215 819 [a0, a1, a2, a3] [aI s0] (ev 179 0 [aR 25 s1, aI s2] [] σ) := ev_call f_Law_law_816 rfl rfl
theorem f_Law_law_819 : fetch 215 819 = some (.if_icmp .eq 505) := by decide +kernel
theorem e_Law_law_819 (a0 a1 a2 a3 : AV) (σ : aM) (x z : Int) (r : List AV) : ev 215 819 [a0, a1, a2, a3] (aI z :: aI x :: r) σ = if x = z then ev 215 1324 [a0, a1, a2, a3] r σ else ev 215 822 [a0, a1, a2, a3] r σ := ev_br f_Law_law_819 rfl bc_eq
theorem f_Law_law_822 : fetch 215 822 = some (.iconst 0) := by decide +kernel
theorem e_Law_law_822 (a0 a1 a2 a3 : AV) (σ : aM) (r : List AV)  : ev 215 822 [a0, a1, a2, a3] (r) σ = ev 215 823 [a0, a1, a2, a3] (aI 0 :: r) σ := ev_go f_Law_law_822 rfl
theorem f_Law_law_823 : fetch 215 823 = some (.ireturn) := by decide +kernel
theorem e_Law_law_823 (a0 a1 a2 a3 : AV) (σ : aM) (x : Int) (h : x = 0 ∨ x = 1) : ev 215 823 [a0, a1, a2, a3] [aI x] σ = some ((some (aI x)), σ) := ev_rB f_Law_law_823 rfl h
theorem f_Law_law_824 : fetch 215 824 = some (.aload_n 1) := by decide +kernel
theorem e_Law_law_824 (a0 a2 a3 : AV) (σ : aM) (l1 : Option (Nat × Int)) (r : List AV)  : ev 215 824 [a0, aQ l1, a2, a3] (r) σ = ev 215 825 [a0, aQ l1, a2, a3] (aQ l1 :: r) σ := ev_go f_Law_law_824 rfl
theorem f_Law_law_825 : fetch 215 825 = some (.aload_n 0) := by decide +kernel
theorem e_Law_law_825 (a1 a2 a3 : AV) (σ : aM) (l0 : Option (Nat × Int)) (r : List AV)  : ev 215 825 [aQ l0, a1, a2, a3] (r) σ = ev 215 826 [aQ l0, a1, a2, a3] (aQ l0 :: r) σ := ev_go f_Law_law_825 rfl
theorem f_Law_law_826 : fetch 215 826 = some (.iload_n 3) := by decide +kernel
theorem e_Law_law_826 (a0 a1 a2 : AV) (σ : aM) (l3 : Int) (r : List AV)  : ev 215 826 [a0, a1, a2, aI l3] (r) σ = ev 215 827 [a0, a1, a2, aI l3] (aI l3 :: r) σ := ev_go f_Law_law_826 rfl
theorem f_Law_law_827 : fetch 215 827 = some (.iconst 1) := by decide +kernel
theorem e_Law_law_827 (a0 a1 a2 a3 : AV) (σ : aM) (r : List AV)  : ev 215 827 [a0, a1, a2, a3] (r) σ = ev 215 828 [a0, a1, a2, a3] (aI 1 :: r) σ := ev_go f_Law_law_827 rfl
theorem f_Law_law_828 : fetch 215 828 = some (.iadd) := by decide +kernel
theorem e_Law_law_828 (a0 a1 a2 a3 : AV) (σ : aM) (x z : Int) (r : List AV)  : ev 215 828 [a0, a1, a2, a3] (aI z :: aI x :: r) σ = ev 215 829 [a0, a1, a2, a3] (aI (wr (x + z)) :: r) σ := ev_go f_Law_law_828 rfl
theorem f_Law_law_829 : fetch 215 829 = some (.iaload) := by decide +kernel
theorem e_Law_law_829 (a0 a1 a2 a3 : AV) (σ : aM) (x : Int) (r : List AV) (h : 0 ≤ x ∧ x < gI σ 34 0 (-1)) : ev 215 829 [a0, a1, a2, a3] (aI x :: aR 34 0 :: r) σ = ev 215 830 [a0, a1, a2, a3] (aI (gI σ 34 0 x) :: r) σ := ev_ldS f_Law_law_829 rfl h
theorem f_Law_law_830 : fetch 215 830 = some (.aload_n 0) := by decide +kernel
theorem e_Law_law_830 (a1 a2 a3 : AV) (σ : aM) (l0 : Option (Nat × Int)) (r : List AV)  : ev 215 830 [aQ l0, a1, a2, a3] (r) σ = ev 215 831 [aQ l0, a1, a2, a3] (aQ l0 :: r) σ := ev_go f_Law_law_830 rfl
theorem f_Law_law_831 : fetch 215 831 = some (.iload_n 3) := by decide +kernel
theorem e_Law_law_831 (a0 a1 a2 : AV) (σ : aM) (l3 : Int) (r : List AV)  : ev 215 831 [a0, a1, a2, aI l3] (r) σ = ev 215 832 [a0, a1, a2, aI l3] (aI l3 :: r) σ := ev_go f_Law_law_831 rfl
theorem f_Law_law_832 : fetch 215 832 = some (.iconst 2) := by decide +kernel
theorem e_Law_law_832 (a0 a1 a2 a3 : AV) (σ : aM) (r : List AV)  : ev 215 832 [a0, a1, a2, a3] (r) σ = ev 215 833 [a0, a1, a2, a3] (aI 2 :: r) σ := ev_go f_Law_law_832 rfl
theorem f_Law_law_833 : fetch 215 833 = some (.iadd) := by decide +kernel
theorem e_Law_law_833 (a0 a1 a2 a3 : AV) (σ : aM) (x z : Int) (r : List AV)  : ev 215 833 [a0, a1, a2, a3] (aI z :: aI x :: r) σ = ev 215 834 [a0, a1, a2, a3] (aI (wr (x + z)) :: r) σ := ev_go f_Law_law_833 rfl
theorem f_Law_law_834 : fetch 215 834 = some (.iaload) := by decide +kernel
theorem e_Law_law_834 (a0 a1 a2 a3 : AV) (σ : aM) (x : Int) (r : List AV) (h : 0 ≤ x ∧ x < gI σ 34 0 (-1)) : ev 215 834 [a0, a1, a2, a3] (aI x :: aR 34 0 :: r) σ = ev 215 835 [a0, a1, a2, a3] (aI (gI σ 34 0 x) :: r) σ := ev_ldS f_Law_law_834 rfl h
theorem f_Law_law_835 : fetch 215 835 = some (.aload_n 0) := by decide +kernel
theorem e_Law_law_835 (a1 a2 a3 : AV) (σ : aM) (l0 : Option (Nat × Int)) (r : List AV)  : ev 215 835 [aQ l0, a1, a2, a3] (r) σ = ev 215 836 [aQ l0, a1, a2, a3] (aQ l0 :: r) σ := ev_go f_Law_law_835 rfl
theorem f_Law_law_836 : fetch 215 836 = some (.iload_n 3) := by decide +kernel
theorem e_Law_law_836 (a0 a1 a2 : AV) (σ : aM) (l3 : Int) (r : List AV)  : ev 215 836 [a0, a1, a2, aI l3] (r) σ = ev 215 837 [a0, a1, a2, aI l3] (aI l3 :: r) σ := ev_go f_Law_law_836 rfl
theorem f_Law_law_837 : fetch 215 837 = some (.iconst 3) := by decide +kernel
theorem e_Law_law_837 (a0 a1 a2 a3 : AV) (σ : aM) (r : List AV)  : ev 215 837 [a0, a1, a2, a3] (r) σ = ev 215 838 [a0, a1, a2, a3] (aI 3 :: r) σ := ev_go f_Law_law_837 rfl
theorem f_Law_law_838 : fetch 215 838 = some (.iadd) := by decide +kernel
theorem e_Law_law_838 (a0 a1 a2 a3 : AV) (σ : aM) (x z : Int) (r : List AV)  : ev 215 838 [a0, a1, a2, a3] (aI z :: aI x :: r) σ = ev 215 839 [a0, a1, a2, a3] (aI (wr (x + z)) :: r) σ := ev_go f_Law_law_838 rfl
theorem f_Law_law_839 : fetch 215 839 = some (.iaload) := by decide +kernel
theorem e_Law_law_839 (a0 a1 a2 a3 : AV) (σ : aM) (x : Int) (r : List AV) (h : 0 ≤ x ∧ x < gI σ 34 0 (-1)) : ev 215 839 [a0, a1, a2, a3] (aI x :: aR 34 0 :: r) σ = ev 215 840 [a0, a1, a2, a3] (aI (gI σ 34 0 x) :: r) σ := ev_ldS f_Law_law_839 rfl h
theorem f_Law_law_840 : fetch 215 840 = some (.invokevirtual 83) := by decide +kernel
theorem e_Law_law_840 (a0 a1 a2 a3 : AV) (σ : aM) (s0 : Int) (s1 : Int) (s2 : Int) (s3 : Int) : ev 215 840 [a0, a1, a2, a3] [aI s3, aI s2, aI s1, aR 0 s0] σ = evK 215 843 [a0, a1, a2, a3] [] (ev 93 0 [aR 0 s0, aI s1, aI s2, aI s3, aU, aU] [] σ) := ev_call f_Law_law_840 rfl rfl
theorem f_Law_law_843 : fetch 215 843 = some (.aload_n 2) := by decide +kernel
theorem e_Law_law_843 (a0 a1 a3 : AV) (σ : aM) (l2 : Option (Nat × Int)) (r : List AV)  : ev 215 843 [a0, a1, aQ l2, a3] (r) σ = ev 215 844 [a0, a1, aQ l2, a3] (aQ l2 :: r) σ := ev_go f_Law_law_843 rfl
theorem f_Law_law_844 : fetch 215 844 = some (.aload_n 0) := by decide +kernel
theorem e_Law_law_844 (a1 a2 a3 : AV) (σ : aM) (l0 : Option (Nat × Int)) (r : List AV)  : ev 215 844 [aQ l0, a1, a2, a3] (r) σ = ev 215 845 [aQ l0, a1, a2, a3] (aQ l0 :: r) σ := ev_go f_Law_law_844 rfl
theorem f_Law_law_845 : fetch 215 845 = some (.iload_n 3) := by decide +kernel
theorem e_Law_law_845 (a0 a1 a2 : AV) (σ : aM) (l3 : Int) (r : List AV)  : ev 215 845 [a0, a1, a2, aI l3] (r) σ = ev 215 846 [a0, a1, a2, aI l3] (aI l3 :: r) σ := ev_go f_Law_law_845 rfl
theorem f_Law_law_846 : fetch 215 846 = some (.iconst 1) := by decide +kernel
theorem e_Law_law_846 (a0 a1 a2 a3 : AV) (σ : aM) (r : List AV)  : ev 215 846 [a0, a1, a2, a3] (r) σ = ev 215 847 [a0, a1, a2, a3] (aI 1 :: r) σ := ev_go f_Law_law_846 rfl
theorem f_Law_law_847 : fetch 215 847 = some (.iadd) := by decide +kernel
theorem e_Law_law_847 (a0 a1 a2 a3 : AV) (σ : aM) (x z : Int) (r : List AV)  : ev 215 847 [a0, a1, a2, a3] (aI z :: aI x :: r) σ = ev 215 848 [a0, a1, a2, a3] (aI (wr (x + z)) :: r) σ := ev_go f_Law_law_847 rfl
theorem f_Law_law_848 : fetch 215 848 = some (.iaload) := by decide +kernel
theorem e_Law_law_848 (a0 a1 a2 a3 : AV) (σ : aM) (x : Int) (r : List AV) (h : 0 ≤ x ∧ x < gI σ 34 0 (-1)) : ev 215 848 [a0, a1, a2, a3] (aI x :: aR 34 0 :: r) σ = ev 215 849 [a0, a1, a2, a3] (aI (gI σ 34 0 x) :: r) σ := ev_ldS f_Law_law_848 rfl h
theorem f_Law_law_849 : fetch 215 849 = some (.aload_n 0) := by decide +kernel
theorem e_Law_law_849 (a1 a2 a3 : AV) (σ : aM) (l0 : Option (Nat × Int)) (r : List AV)  : ev 215 849 [aQ l0, a1, a2, a3] (r) σ = ev 215 850 [aQ l0, a1, a2, a3] (aQ l0 :: r) σ := ev_go f_Law_law_849 rfl
theorem f_Law_law_850 : fetch 215 850 = some (.iload_n 3) := by decide +kernel
theorem e_Law_law_850 (a0 a1 a2 : AV) (σ : aM) (l3 : Int) (r : List AV)  : ev 215 850 [a0, a1, a2, aI l3] (r) σ = ev 215 851 [a0, a1, a2, aI l3] (aI l3 :: r) σ := ev_go f_Law_law_850 rfl
theorem f_Law_law_851 : fetch 215 851 = some (.iconst 2) := by decide +kernel
theorem e_Law_law_851 (a0 a1 a2 a3 : AV) (σ : aM) (r : List AV)  : ev 215 851 [a0, a1, a2, a3] (r) σ = ev 215 852 [a0, a1, a2, a3] (aI 2 :: r) σ := ev_go f_Law_law_851 rfl
theorem f_Law_law_852 : fetch 215 852 = some (.iadd) := by decide +kernel
theorem e_Law_law_852 (a0 a1 a2 a3 : AV) (σ : aM) (x z : Int) (r : List AV)  : ev 215 852 [a0, a1, a2, a3] (aI z :: aI x :: r) σ = ev 215 853 [a0, a1, a2, a3] (aI (wr (x + z)) :: r) σ := ev_go f_Law_law_852 rfl
theorem f_Law_law_853 : fetch 215 853 = some (.iaload) := by decide +kernel
theorem e_Law_law_853 (a0 a1 a2 a3 : AV) (σ : aM) (x : Int) (r : List AV) (h : 0 ≤ x ∧ x < gI σ 34 0 (-1)) : ev 215 853 [a0, a1, a2, a3] (aI x :: aR 34 0 :: r) σ = ev 215 854 [a0, a1, a2, a3] (aI (gI σ 34 0 x) :: r) σ := ev_ldS f_Law_law_853 rfl h
theorem f_Law_law_854 : fetch 215 854 = some (.aload_n 0) := by decide +kernel
theorem e_Law_law_854 (a1 a2 a3 : AV) (σ : aM) (l0 : Option (Nat × Int)) (r : List AV)  : ev 215 854 [aQ l0, a1, a2, a3] (r) σ = ev 215 855 [aQ l0, a1, a2, a3] (aQ l0 :: r) σ := ev_go f_Law_law_854 rfl
theorem f_Law_law_855 : fetch 215 855 = some (.iload_n 3) := by decide +kernel
theorem e_Law_law_855 (a0 a1 a2 : AV) (σ : aM) (l3 : Int) (r : List AV)  : ev 215 855 [a0, a1, a2, aI l3] (r) σ = ev 215 856 [a0, a1, a2, aI l3] (aI l3 :: r) σ := ev_go f_Law_law_855 rfl
theorem f_Law_law_856 : fetch 215 856 = some (.iconst 3) := by decide +kernel
theorem e_Law_law_856 (a0 a1 a2 a3 : AV) (σ : aM) (r : List AV)  : ev 215 856 [a0, a1, a2, a3] (r) σ = ev 215 857 [a0, a1, a2, a3] (aI 3 :: r) σ := ev_go f_Law_law_856 rfl
theorem f_Law_law_857 : fetch 215 857 = some (.iadd) := by decide +kernel
theorem e_Law_law_857 (a0 a1 a2 a3 : AV) (σ : aM) (x z : Int) (r : List AV)  : ev 215 857 [a0, a1, a2, a3] (aI z :: aI x :: r) σ = ev 215 858 [a0, a1, a2, a3] (aI (wr (x + z)) :: r) σ := ev_go f_Law_law_857 rfl
theorem f_Law_law_858 : fetch 215 858 = some (.iaload) := by decide +kernel
theorem e_Law_law_858 (a0 a1 a2 a3 : AV) (σ : aM) (x : Int) (r : List AV) (h : 0 ≤ x ∧ x < gI σ 34 0 (-1)) : ev 215 858 [a0, a1, a2, a3] (aI x :: aR 34 0 :: r) σ = ev 215 859 [a0, a1, a2, a3] (aI (gI σ 34 0 x) :: r) σ := ev_ldS f_Law_law_858 rfl h
theorem f_Law_law_859 : fetch 215 859 = some (.invokevirtual 86) := by decide +kernel
theorem e_Law_law_859 (a0 a1 a2 a3 : AV) (σ : aM) (s0 : Int) (s1 : Int) (s2 : Int) (s3 : Int) (s4 : Int) : ev 215 859 [a0, a1, a2, a3] [aI s4, aI s3, aI s2, aR 25 s1, aI s0] σ = evK 215 862 [a0, a1, a2, a3] [aI s0] (ev 180 0 [aR 25 s1, aI s2, aI s3, aI s4, aU, aU] [] σ) := ev_call f_Law_law_859 rfl rfl
theorem f_Law_law_862 : fetch 215 862 = some (.if_icmp .eq 462) := by decide +kernel
theorem e_Law_law_862 (a0 a1 a2 a3 : AV) (σ : aM) (x z : Int) (r : List AV) : ev 215 862 [a0, a1, a2, a3] (aI z :: aI x :: r) σ = if x = z then ev 215 1324 [a0, a1, a2, a3] r σ else ev 215 865 [a0, a1, a2, a3] r σ := ev_br f_Law_law_862 rfl bc_eq
theorem f_Law_law_865 : fetch 215 865 = some (.iconst 0) := by decide +kernel
theorem e_Law_law_865 (a0 a1 a2 a3 : AV) (σ : aM) (r : List AV)  : ev 215 865 [a0, a1, a2, a3] (r) σ = ev 215 866 [a0, a1, a2, a3] (aI 0 :: r) σ := ev_go f_Law_law_865 rfl
theorem f_Law_law_866 : fetch 215 866 = some (.ireturn) := by decide +kernel
theorem e_Law_law_866 (a0 a1 a2 a3 : AV) (σ : aM) (x : Int) (h : x = 0 ∨ x = 1) : ev 215 866 [a0, a1, a2, a3] [aI x] σ = some ((some (aI x)), σ) := ev_rB f_Law_law_866 rfl h
theorem f_Law_law_867 : fetch 215 867 = some (.aload_n 1) := by decide +kernel
theorem e_Law_law_867 (a0 a2 a3 : AV) (σ : aM) (l1 : Option (Nat × Int)) (r : List AV)  : ev 215 867 [a0, aQ l1, a2, a3] (r) σ = ev 215 868 [a0, aQ l1, a2, a3] (aQ l1 :: r) σ := ev_go f_Law_law_867 rfl
theorem f_Law_law_868 : fetch 215 868 = some (.aload_n 0) := by decide +kernel
theorem e_Law_law_868 (a1 a2 a3 : AV) (σ : aM) (l0 : Option (Nat × Int)) (r : List AV)  : ev 215 868 [aQ l0, a1, a2, a3] (r) σ = ev 215 869 [aQ l0, a1, a2, a3] (aQ l0 :: r) σ := ev_go f_Law_law_868 rfl
theorem f_Law_law_869 : fetch 215 869 = some (.iload_n 3) := by decide +kernel
theorem e_Law_law_869 (a0 a1 a2 : AV) (σ : aM) (l3 : Int) (r : List AV)  : ev 215 869 [a0, a1, a2, aI l3] (r) σ = ev 215 870 [a0, a1, a2, aI l3] (aI l3 :: r) σ := ev_go f_Law_law_869 rfl
theorem f_Law_law_870 : fetch 215 870 = some (.iconst 1) := by decide +kernel
theorem e_Law_law_870 (a0 a1 a2 a3 : AV) (σ : aM) (r : List AV)  : ev 215 870 [a0, a1, a2, a3] (r) σ = ev 215 871 [a0, a1, a2, a3] (aI 1 :: r) σ := ev_go f_Law_law_870 rfl
theorem f_Law_law_871 : fetch 215 871 = some (.iadd) := by decide +kernel
theorem e_Law_law_871 (a0 a1 a2 a3 : AV) (σ : aM) (x z : Int) (r : List AV)  : ev 215 871 [a0, a1, a2, a3] (aI z :: aI x :: r) σ = ev 215 872 [a0, a1, a2, a3] (aI (wr (x + z)) :: r) σ := ev_go f_Law_law_871 rfl
theorem f_Law_law_872 : fetch 215 872 = some (.iaload) := by decide +kernel
theorem e_Law_law_872 (a0 a1 a2 a3 : AV) (σ : aM) (x : Int) (r : List AV) (h : 0 ≤ x ∧ x < gI σ 34 0 (-1)) : ev 215 872 [a0, a1, a2, a3] (aI x :: aR 34 0 :: r) σ = ev 215 873 [a0, a1, a2, a3] (aI (gI σ 34 0 x) :: r) σ := ev_ldS f_Law_law_872 rfl h
theorem f_Law_law_873 : fetch 215 873 = some (.invokevirtual 87) := by decide +kernel
theorem e_Law_law_873 (a0 a1 a2 a3 : AV) (σ : aM) (s0 : Int) (s1 : Int) : ev 215 873 [a0, a1, a2, a3] [aI s1, aR 0 s0] σ = evK 215 876 [a0, a1, a2, a3] [] (ev 94 0 [aR 0 s0, aI s1, aU] [] σ) := ev_call f_Law_law_873 rfl rfl
theorem f_Law_law_876 : fetch 215 876 = some (.aload_n 2) := by decide +kernel
theorem e_Law_law_876 (a0 a1 a3 : AV) (σ : aM) (l2 : Option (Nat × Int)) (r : List AV)  : ev 215 876 [a0, a1, aQ l2, a3] (r) σ = ev 215 877 [a0, a1, aQ l2, a3] (aQ l2 :: r) σ := ev_go f_Law_law_876 rfl
theorem f_Law_law_877 : fetch 215 877 = some (.aload_n 0) := by decide +kernel
theorem e_Law_law_877 (a1 a2 a3 : AV) (σ : aM) (l0 : Option (Nat × Int)) (r : List AV)  : ev 215 877 [aQ l0, a1, a2, a3] (r) σ = ev 215 878 [aQ l0, a1, a2, a3] (aQ l0 :: r) σ := ev_go f_Law_law_877 rfl
theorem f_Law_law_878 : fetch 215 878 = some (.iload_n 3) := by decide +kernel
theorem e_Law_law_878 (a0 a1 a2 : AV) (σ : aM) (l3 : Int) (r : List AV)  : ev 215 878 [a0, a1, a2, aI l3] (r) σ = ev 215 879 [a0, a1, a2, aI l3] (aI l3 :: r) σ := ev_go f_Law_law_878 rfl
theorem f_Law_law_879 : fetch 215 879 = some (.iconst 1) := by decide +kernel
theorem e_Law_law_879 (a0 a1 a2 a3 : AV) (σ : aM) (r : List AV)  : ev 215 879 [a0, a1, a2, a3] (r) σ = ev 215 880 [a0, a1, a2, a3] (aI 1 :: r) σ := ev_go f_Law_law_879 rfl
theorem f_Law_law_880 : fetch 215 880 = some (.iadd) := by decide +kernel
theorem e_Law_law_880 (a0 a1 a2 a3 : AV) (σ : aM) (x z : Int) (r : List AV)  : ev 215 880 [a0, a1, a2, a3] (aI z :: aI x :: r) σ = ev 215 881 [a0, a1, a2, a3] (aI (wr (x + z)) :: r) σ := ev_go f_Law_law_880 rfl
theorem f_Law_law_881 : fetch 215 881 = some (.iaload) := by decide +kernel
theorem e_Law_law_881 (a0 a1 a2 a3 : AV) (σ : aM) (x : Int) (r : List AV) (h : 0 ≤ x ∧ x < gI σ 34 0 (-1)) : ev 215 881 [a0, a1, a2, a3] (aI x :: aR 34 0 :: r) σ = ev 215 882 [a0, a1, a2, a3] (aI (gI σ 34 0 x) :: r) σ := ev_ldS f_Law_law_881 rfl h
theorem f_Law_law_882 : fetch 215 882 = some (.invokevirtual 90) := by decide +kernel
theorem e_Law_law_882 (a0 a1 a2 a3 : AV) (σ : aM) (s0 : Int) (s1 : Int) (s2 : Int) : ev 215 882 [a0, a1, a2, a3] [aI s2, aR 25 s1, aI s0] σ = evK 215 885 [a0, a1, a2, a3] [aI s0] (ev 181 0 [aR 25 s1, aI s2, aU] [] σ) := ev_call f_Law_law_882 rfl rfl
theorem f_Law_law_885 : fetch 215 885 = some (.if_icmp .eq 439) := by decide +kernel
theorem e_Law_law_885 (a0 a1 a2 a3 : AV) (σ : aM) (x z : Int) (r : List AV) : ev 215 885 [a0, a1, a2, a3] (aI z :: aI x :: r) σ = if x = z then ev 215 1324 [a0, a1, a2, a3] r σ else ev 215 888 [a0, a1, a2, a3] r σ := ev_br f_Law_law_885 rfl bc_eq
theorem f_Law_law_888 : fetch 215 888 = some (.iconst 0) := by decide +kernel
theorem e_Law_law_888 (a0 a1 a2 a3 : AV) (σ : aM) (r : List AV)  : ev 215 888 [a0, a1, a2, a3] (r) σ = ev 215 889 [a0, a1, a2, a3] (aI 0 :: r) σ := ev_go f_Law_law_888 rfl
theorem f_Law_law_889 : fetch 215 889 = some (.ireturn) := by decide +kernel
theorem e_Law_law_889 (a0 a1 a2 a3 : AV) (σ : aM) (x : Int) (h : x = 0 ∨ x = 1) : ev 215 889 [a0, a1, a2, a3] [aI x] σ = some ((some (aI x)), σ) := ev_rB f_Law_law_889 rfl h
theorem f_Law_law_890 : fetch 215 890 = some (.aload_n 1) := by decide +kernel
theorem e_Law_law_890 (a0 a2 a3 : AV) (σ : aM) (l1 : Option (Nat × Int)) (r : List AV)  : ev 215 890 [a0, aQ l1, a2, a3] (r) σ = ev 215 891 [a0, aQ l1, a2, a3] (aQ l1 :: r) σ := ev_go f_Law_law_890 rfl
theorem f_Law_law_891 : fetch 215 891 = some (.invokevirtual 91) := by decide +kernel
theorem e_Law_law_891 (a0 a1 a2 a3 : AV) (σ : aM) (s0 : Int) : ev 215 891 [a0, a1, a2, a3] [aR 0 s0] σ = evK 215 894 [a0, a1, a2, a3] [] (ev 95 0 [aR 0 s0] [] σ) := ev_call f_Law_law_891 rfl rfl
theorem f_Law_law_894 : fetch 215 894 = some (.aload_n 2) := by decide +kernel
theorem e_Law_law_894 (a0 a1 a3 : AV) (σ : aM) (l2 : Option (Nat × Int)) (r : List AV)  : ev 215 894 [a0, a1, aQ l2, a3] (r) σ = ev 215 895 [a0, a1, aQ l2, a3] (aQ l2 :: r) σ := ev_go f_Law_law_894 rfl
theorem f_Law_law_895 : fetch 215 895 = some (.invokevirtual 94) := by decide +kernel
theorem e_Law_law_895 (a0 a1 a2 a3 : AV) (σ : aM) (s0 : Int) (s1 : Int) : ev 215 895 [a0, a1, a2, a3] [aR 25 s1, aI s0] σ = evK 215 898 [a0, a1, a2, a3] [aI s0] (ev 187 0 [aR 25 s1, aU, aU] [] σ) := ev_call f_Law_law_895 rfl rfl
theorem f_Law_law_898 : fetch 215 898 = some (.if_icmp .eq 426) := by decide +kernel
theorem e_Law_law_898 (a0 a1 a2 a3 : AV) (σ : aM) (x z : Int) (r : List AV) : ev 215 898 [a0, a1, a2, a3] (aI z :: aI x :: r) σ = if x = z then ev 215 1324 [a0, a1, a2, a3] r σ else ev 215 901 [a0, a1, a2, a3] r σ := ev_br f_Law_law_898 rfl bc_eq
theorem f_Law_law_901 : fetch 215 901 = some (.iconst 0) := by decide +kernel
theorem e_Law_law_901 (a0 a1 a2 a3 : AV) (σ : aM) (r : List AV)  : ev 215 901 [a0, a1, a2, a3] (r) σ = ev 215 902 [a0, a1, a2, a3] (aI 0 :: r) σ := ev_go f_Law_law_901 rfl
theorem f_Law_law_902 : fetch 215 902 = some (.ireturn) := by decide +kernel
theorem e_Law_law_902 (a0 a1 a2 a3 : AV) (σ : aM) (x : Int) (h : x = 0 ∨ x = 1) : ev 215 902 [a0, a1, a2, a3] [aI x] σ = some ((some (aI x)), σ) := ev_rB f_Law_law_902 rfl h
theorem f_Law_law_903 : fetch 215 903 = some (.aload_n 1) := by decide +kernel
theorem e_Law_law_903 (a0 a2 a3 : AV) (σ : aM) (l1 : Option (Nat × Int)) (r : List AV)  : ev 215 903 [a0, aQ l1, a2, a3] (r) σ = ev 215 904 [a0, aQ l1, a2, a3] (aQ l1 :: r) σ := ev_go f_Law_law_903 rfl
theorem f_Law_law_904 : fetch 215 904 = some (.invokevirtual 95) := by decide +kernel
theorem e_Law_law_904 (a0 a1 a2 a3 : AV) (σ : aM) (s0 : Int) : ev 215 904 [a0, a1, a2, a3] [aR 0 s0] σ = evK 215 907 [a0, a1, a2, a3] [] (ev 96 0 [aR 0 s0] [] σ) := ev_call f_Law_law_904 rfl rfl
theorem f_Law_law_907 : fetch 215 907 = some (.aload_n 2) := by decide +kernel
theorem e_Law_law_907 (a0 a1 a3 : AV) (σ : aM) (l2 : Option (Nat × Int)) (r : List AV)  : ev 215 907 [a0, a1, aQ l2, a3] (r) σ = ev 215 908 [a0, a1, aQ l2, a3] (aQ l2 :: r) σ := ev_go f_Law_law_907 rfl
theorem f_Law_law_908 : fetch 215 908 = some (.invokevirtual 98) := by decide +kernel
theorem e_Law_law_908 (a0 a1 a2 a3 : AV) (σ : aM) (s0 : Int) (s1 : Int) : ev 215 908 [a0, a1, a2, a3] [aR 25 s1, aI s0] σ = evK 215 911 [a0, a1, a2, a3] [aI s0] (ev 189 0 [aR 25 s1] [] σ) := ev_call f_Law_law_908 rfl rfl
theorem f_Law_law_911 : fetch 215 911 = some (.if_icmp .eq 413) := by decide +kernel
theorem e_Law_law_911 (a0 a1 a2 a3 : AV) (σ : aM) (x z : Int) (r : List AV) : ev 215 911 [a0, a1, a2, a3] (aI z :: aI x :: r) σ = if x = z then ev 215 1324 [a0, a1, a2, a3] r σ else ev 215 914 [a0, a1, a2, a3] r σ := ev_br f_Law_law_911 rfl bc_eq
theorem f_Law_law_914 : fetch 215 914 = some (.iconst 0) := by decide +kernel
theorem e_Law_law_914 (a0 a1 a2 a3 : AV) (σ : aM) (r : List AV)  : ev 215 914 [a0, a1, a2, a3] (r) σ = ev 215 915 [a0, a1, a2, a3] (aI 0 :: r) σ := ev_go f_Law_law_914 rfl
theorem f_Law_law_915 : fetch 215 915 = some (.ireturn) := by decide +kernel
theorem e_Law_law_915 (a0 a1 a2 a3 : AV) (σ : aM) (x : Int) (h : x = 0 ∨ x = 1) : ev 215 915 [a0, a1, a2, a3] [aI x] σ = some ((some (aI x)), σ) := ev_rB f_Law_law_915 rfl h
theorem f_Law_law_916 : fetch 215 916 = some (.aload_n 1) := by decide +kernel
theorem e_Law_law_916 (a0 a2 a3 : AV) (σ : aM) (l1 : Option (Nat × Int)) (r : List AV)  : ev 215 916 [a0, aQ l1, a2, a3] (r) σ = ev 215 917 [a0, aQ l1, a2, a3] (aQ l1 :: r) σ := ev_go f_Law_law_916 rfl
theorem f_Law_law_917 : fetch 215 917 = some (.aload_n 0) := by decide +kernel
theorem e_Law_law_917 (a1 a2 a3 : AV) (σ : aM) (l0 : Option (Nat × Int)) (r : List AV)  : ev 215 917 [aQ l0, a1, a2, a3] (r) σ = ev 215 918 [aQ l0, a1, a2, a3] (aQ l0 :: r) σ := ev_go f_Law_law_917 rfl
theorem f_Law_law_918 : fetch 215 918 = some (.iload_n 3) := by decide +kernel
theorem e_Law_law_918 (a0 a1 a2 : AV) (σ : aM) (l3 : Int) (r : List AV)  : ev 215 918 [a0, a1, a2, aI l3] (r) σ = ev 215 919 [a0, a1, a2, aI l3] (aI l3 :: r) σ := ev_go f_Law_law_918 rfl
theorem f_Law_law_919 : fetch 215 919 = some (.iconst 1) := by decide +kernel
theorem e_Law_law_919 (a0 a1 a2 a3 : AV) (σ : aM) (r : List AV)  : ev 215 919 [a0, a1, a2, a3] (r) σ = ev 215 920 [a0, a1, a2, a3] (aI 1 :: r) σ := ev_go f_Law_law_919 rfl
theorem f_Law_law_920 : fetch 215 920 = some (.iadd) := by decide +kernel
theorem e_Law_law_920 (a0 a1 a2 a3 : AV) (σ : aM) (x z : Int) (r : List AV)  : ev 215 920 [a0, a1, a2, a3] (aI z :: aI x :: r) σ = ev 215 921 [a0, a1, a2, a3] (aI (wr (x + z)) :: r) σ := ev_go f_Law_law_920 rfl
theorem f_Law_law_921 : fetch 215 921 = some (.iaload) := by decide +kernel
theorem e_Law_law_921 (a0 a1 a2 a3 : AV) (σ : aM) (x : Int) (r : List AV) (h : 0 ≤ x ∧ x < gI σ 34 0 (-1)) : ev 215 921 [a0, a1, a2, a3] (aI x :: aR 34 0 :: r) σ = ev 215 922 [a0, a1, a2, a3] (aI (gI σ 34 0 x) :: r) σ := ev_ldS f_Law_law_921 rfl h
theorem f_Law_law_922 : fetch 215 922 = some (.invokevirtual 99) := by decide +kernel
theorem e_Law_law_922 (a0 a1 a2 a3 : AV) (σ : aM) (s0 : Int) (s1 : Int) : ev 215 922 [a0, a1, a2, a3] [aI s1, aR 0 s0] σ = evK 215 925 [a0, a1, a2, a3] [] (ev 97 0 [aR 0 s0, aI s1] [] σ) := ev_call f_Law_law_922 rfl rfl
theorem f_Law_law_925 : fetch 215 925 = some (.aload_n 2) := by decide +kernel
theorem e_Law_law_925 (a0 a1 a3 : AV) (σ : aM) (l2 : Option (Nat × Int)) (r : List AV)  : ev 215 925 [a0, a1, aQ l2, a3] (r) σ = ev 215 926 [a0, a1, aQ l2, a3] (aQ l2 :: r) σ := ev_go f_Law_law_925 rfl
theorem f_Law_law_926 : fetch 215 926 = some (.aload_n 0) := by decide +kernel
theorem e_Law_law_926 (a1 a2 a3 : AV) (σ : aM) (l0 : Option (Nat × Int)) (r : List AV)  : ev 215 926 [aQ l0, a1, a2, a3] (r) σ = ev 215 927 [aQ l0, a1, a2, a3] (aQ l0 :: r) σ := ev_go f_Law_law_926 rfl
theorem f_Law_law_927 : fetch 215 927 = some (.iload_n 3) := by decide +kernel
theorem e_Law_law_927 (a0 a1 a2 : AV) (σ : aM) (l3 : Int) (r : List AV)  : ev 215 927 [a0, a1, a2, aI l3] (r) σ = ev 215 928 [a0, a1, a2, aI l3] (aI l3 :: r) σ := ev_go f_Law_law_927 rfl
theorem f_Law_law_928 : fetch 215 928 = some (.iconst 1) := by decide +kernel
theorem e_Law_law_928 (a0 a1 a2 a3 : AV) (σ : aM) (r : List AV)  : ev 215 928 [a0, a1, a2, a3] (r) σ = ev 215 929 [a0, a1, a2, a3] (aI 1 :: r) σ := ev_go f_Law_law_928 rfl
theorem f_Law_law_929 : fetch 215 929 = some (.iadd) := by decide +kernel
theorem e_Law_law_929 (a0 a1 a2 a3 : AV) (σ : aM) (x z : Int) (r : List AV)  : ev 215 929 [a0, a1, a2, a3] (aI z :: aI x :: r) σ = ev 215 930 [a0, a1, a2, a3] (aI (wr (x + z)) :: r) σ := ev_go f_Law_law_929 rfl
theorem f_Law_law_930 : fetch 215 930 = some (.iaload) := by decide +kernel
theorem e_Law_law_930 (a0 a1 a2 a3 : AV) (σ : aM) (x : Int) (r : List AV) (h : 0 ≤ x ∧ x < gI σ 34 0 (-1)) : ev 215 930 [a0, a1, a2, a3] (aI x :: aR 34 0 :: r) σ = ev 215 931 [a0, a1, a2, a3] (aI (gI σ 34 0 x) :: r) σ := ev_ldS f_Law_law_930 rfl h
theorem f_Law_law_931 : fetch 215 931 = some (.invokevirtual 102) := by decide +kernel
theorem e_Law_law_931 (a0 a1 a2 a3 : AV) (σ : aM) (s0 : Int) (s1 : Int) (s2 : Int) : ev 215 931 [a0, a1, a2, a3] [aI s2, aR 25 s1, aI s0] σ = evK 215 934 [a0, a1, a2, a3] [aI s0] (ev 190 0 [aR 25 s1, aI s2, aU] [] σ) := ev_call f_Law_law_931 rfl rfl
theorem f_Law_law_934 : fetch 215 934 = some (.if_icmp .eq 390) := by decide +kernel
theorem e_Law_law_934 (a0 a1 a2 a3 : AV) (σ : aM) (x z : Int) (r : List AV) : ev 215 934 [a0, a1, a2, a3] (aI z :: aI x :: r) σ = if x = z then ev 215 1324 [a0, a1, a2, a3] r σ else ev 215 937 [a0, a1, a2, a3] r σ := ev_br f_Law_law_934 rfl bc_eq
theorem f_Law_law_937 : fetch 215 937 = some (.iconst 0) := by decide +kernel
theorem e_Law_law_937 (a0 a1 a2 a3 : AV) (σ : aM) (r : List AV)  : ev 215 937 [a0, a1, a2, a3] (r) σ = ev 215 938 [a0, a1, a2, a3] (aI 0 :: r) σ := ev_go f_Law_law_937 rfl
theorem f_Law_law_938 : fetch 215 938 = some (.ireturn) := by decide +kernel
theorem e_Law_law_938 (a0 a1 a2 a3 : AV) (σ : aM) (x : Int) (h : x = 0 ∨ x = 1) : ev 215 938 [a0, a1, a2, a3] [aI x] σ = some ((some (aI x)), σ) := ev_rB f_Law_law_938 rfl h
theorem f_Law_law_939 : fetch 215 939 = some (.aload_n 1) := by decide +kernel
theorem e_Law_law_939 (a0 a2 a3 : AV) (σ : aM) (l1 : Option (Nat × Int)) (r : List AV)  : ev 215 939 [a0, aQ l1, a2, a3] (r) σ = ev 215 940 [a0, aQ l1, a2, a3] (aQ l1 :: r) σ := ev_go f_Law_law_939 rfl
theorem f_Law_law_940 : fetch 215 940 = some (.aload_n 0) := by decide +kernel
theorem e_Law_law_940 (a1 a2 a3 : AV) (σ : aM) (l0 : Option (Nat × Int)) (r : List AV)  : ev 215 940 [aQ l0, a1, a2, a3] (r) σ = ev 215 941 [aQ l0, a1, a2, a3] (aQ l0 :: r) σ := ev_go f_Law_law_940 rfl
theorem f_Law_law_941 : fetch 215 941 = some (.iload_n 3) := by decide +kernel
theorem e_Law_law_941 (a0 a1 a2 : AV) (σ : aM) (l3 : Int) (r : List AV)  : ev 215 941 [a0, a1, a2, aI l3] (r) σ = ev 215 942 [a0, a1, a2, aI l3] (aI l3 :: r) σ := ev_go f_Law_law_941 rfl
theorem f_Law_law_942 : fetch 215 942 = some (.iconst 1) := by decide +kernel
theorem e_Law_law_942 (a0 a1 a2 a3 : AV) (σ : aM) (r : List AV)  : ev 215 942 [a0, a1, a2, a3] (r) σ = ev 215 943 [a0, a1, a2, a3] (aI 1 :: r) σ := ev_go f_Law_law_942 rfl
theorem f_Law_law_943 : fetch 215 943 = some (.iadd) := by decide +kernel
theorem e_Law_law_943 (a0 a1 a2 a3 : AV) (σ : aM) (x z : Int) (r : List AV)  : ev 215 943 [a0, a1, a2, a3] (aI z :: aI x :: r) σ = ev 215 944 [a0, a1, a2, a3] (aI (wr (x + z)) :: r) σ := ev_go f_Law_law_943 rfl
theorem f_Law_law_944 : fetch 215 944 = some (.iaload) := by decide +kernel
theorem e_Law_law_944 (a0 a1 a2 a3 : AV) (σ : aM) (x : Int) (r : List AV) (h : 0 ≤ x ∧ x < gI σ 34 0 (-1)) : ev 215 944 [a0, a1, a2, a3] (aI x :: aR 34 0 :: r) σ = ev 215 945 [a0, a1, a2, a3] (aI (gI σ 34 0 x) :: r) σ := ev_ldS f_Law_law_944 rfl h
theorem f_Law_law_945 : fetch 215 945 = some (.aload_n 0) := by decide +kernel
theorem e_Law_law_945 (a1 a2 a3 : AV) (σ : aM) (l0 : Option (Nat × Int)) (r : List AV)  : ev 215 945 [aQ l0, a1, a2, a3] (r) σ = ev 215 946 [aQ l0, a1, a2, a3] (aQ l0 :: r) σ := ev_go f_Law_law_945 rfl
theorem f_Law_law_946 : fetch 215 946 = some (.iload_n 3) := by decide +kernel
theorem e_Law_law_946 (a0 a1 a2 : AV) (σ : aM) (l3 : Int) (r : List AV)  : ev 215 946 [a0, a1, a2, aI l3] (r) σ = ev 215 947 [a0, a1, a2, aI l3] (aI l3 :: r) σ := ev_go f_Law_law_946 rfl
theorem f_Law_law_947 : fetch 215 947 = some (.iconst 2) := by decide +kernel
theorem e_Law_law_947 (a0 a1 a2 a3 : AV) (σ : aM) (r : List AV)  : ev 215 947 [a0, a1, a2, a3] (r) σ = ev 215 948 [a0, a1, a2, a3] (aI 2 :: r) σ := ev_go f_Law_law_947 rfl
theorem f_Law_law_948 : fetch 215 948 = some (.iadd) := by decide +kernel
theorem e_Law_law_948 (a0 a1 a2 a3 : AV) (σ : aM) (x z : Int) (r : List AV)  : ev 215 948 [a0, a1, a2, a3] (aI z :: aI x :: r) σ = ev 215 949 [a0, a1, a2, a3] (aI (wr (x + z)) :: r) σ := ev_go f_Law_law_948 rfl
theorem f_Law_law_949 : fetch 215 949 = some (.iaload) := by decide +kernel
theorem e_Law_law_949 (a0 a1 a2 a3 : AV) (σ : aM) (x : Int) (r : List AV) (h : 0 ≤ x ∧ x < gI σ 34 0 (-1)) : ev 215 949 [a0, a1, a2, a3] (aI x :: aR 34 0 :: r) σ = ev 215 950 [a0, a1, a2, a3] (aI (gI σ 34 0 x) :: r) σ := ev_ldS f_Law_law_949 rfl h
theorem f_Law_law_950 : fetch 215 950 = some (.invokevirtual 103) := by decide +kernel
theorem e_Law_law_950 (a0 a1 a2 a3 : AV) (σ : aM) (s0 : Int) (s1 : Int) (s2 : Int) : ev 215 950 [a0, a1, a2, a3] [aI s2, aI s1, aR 0 s0] σ = evK 215 953 [a0, a1, a2, a3] [] (ev 98 0 [aR 0 s0, aI s1, aI s2, aU] [] σ) := ev_call f_Law_law_950 rfl rfl
theorem f_Law_law_953 : fetch 215 953 = some (.aload_n 2) := by decide +kernel
theorem e_Law_law_953 (a0 a1 a3 : AV) (σ : aM) (l2 : Option (Nat × Int)) (r : List AV)  : ev 215 953 [a0, a1, aQ l2, a3] (r) σ = ev 215 954 [a0, a1, aQ l2, a3] (aQ l2 :: r) σ := ev_go f_Law_law_953 rfl
theorem f_Law_law_954 : fetch 215 954 = some (.aload_n 0) := by decide +kernel
theorem e_Law_law_954 (a1 a2 a3 : AV) (σ : aM) (l0 : Option (Nat × Int)) (r : List AV)  : ev 215 954 [aQ l0, a1, a2, a3] (r) σ = ev 215 955 [aQ l0, a1, a2, a3] (aQ l0 :: r) σ := ev_go f_Law_law_954 rfl
theorem f_Law_law_955 : fetch 215 955 = some (.iload_n 3) := by decide +kernel
theorem e_Law_law_955 (a0 a1 a2 : AV) (σ : aM) (l3 : Int) (r : List AV)  : ev 215 955 [a0, a1, a2, aI l3] (r) σ = ev 215 956 [a0, a1, a2, aI l3] (aI l3 :: r) σ := ev_go f_Law_law_955 rfl
theorem f_Law_law_956 : fetch 215 956 = some (.iconst 1) := by decide +kernel
theorem e_Law_law_956 (a0 a1 a2 a3 : AV) (σ : aM) (r : List AV)  : ev 215 956 [a0, a1, a2, a3] (r) σ = ev 215 957 [a0, a1, a2, a3] (aI 1 :: r) σ := ev_go f_Law_law_956 rfl
theorem f_Law_law_957 : fetch 215 957 = some (.iadd) := by decide +kernel
theorem e_Law_law_957 (a0 a1 a2 a3 : AV) (σ : aM) (x z : Int) (r : List AV)  : ev 215 957 [a0, a1, a2, a3] (aI z :: aI x :: r) σ = ev 215 958 [a0, a1, a2, a3] (aI (wr (x + z)) :: r) σ := ev_go f_Law_law_957 rfl
theorem f_Law_law_958 : fetch 215 958 = some (.iaload) := by decide +kernel
theorem e_Law_law_958 (a0 a1 a2 a3 : AV) (σ : aM) (x : Int) (r : List AV) (h : 0 ≤ x ∧ x < gI σ 34 0 (-1)) : ev 215 958 [a0, a1, a2, a3] (aI x :: aR 34 0 :: r) σ = ev 215 959 [a0, a1, a2, a3] (aI (gI σ 34 0 x) :: r) σ := ev_ldS f_Law_law_958 rfl h
theorem f_Law_law_959 : fetch 215 959 = some (.aload_n 0) := by decide +kernel
theorem e_Law_law_959 (a1 a2 a3 : AV) (σ : aM) (l0 : Option (Nat × Int)) (r : List AV)  : ev 215 959 [aQ l0, a1, a2, a3] (r) σ = ev 215 960 [aQ l0, a1, a2, a3] (aQ l0 :: r) σ := ev_go f_Law_law_959 rfl
theorem f_Law_law_960 : fetch 215 960 = some (.iload_n 3) := by decide +kernel
theorem e_Law_law_960 (a0 a1 a2 : AV) (σ : aM) (l3 : Int) (r : List AV)  : ev 215 960 [a0, a1, a2, aI l3] (r) σ = ev 215 961 [a0, a1, a2, aI l3] (aI l3 :: r) σ := ev_go f_Law_law_960 rfl
theorem f_Law_law_961 : fetch 215 961 = some (.iconst 2) := by decide +kernel
theorem e_Law_law_961 (a0 a1 a2 a3 : AV) (σ : aM) (r : List AV)  : ev 215 961 [a0, a1, a2, a3] (r) σ = ev 215 962 [a0, a1, a2, a3] (aI 2 :: r) σ := ev_go f_Law_law_961 rfl
theorem f_Law_law_962 : fetch 215 962 = some (.iadd) := by decide +kernel
theorem e_Law_law_962 (a0 a1 a2 a3 : AV) (σ : aM) (x z : Int) (r : List AV)  : ev 215 962 [a0, a1, a2, a3] (aI z :: aI x :: r) σ = ev 215 963 [a0, a1, a2, a3] (aI (wr (x + z)) :: r) σ := ev_go f_Law_law_962 rfl
theorem f_Law_law_963 : fetch 215 963 = some (.iaload) := by decide +kernel
theorem e_Law_law_963 (a0 a1 a2 a3 : AV) (σ : aM) (x : Int) (r : List AV) (h : 0 ≤ x ∧ x < gI σ 34 0 (-1)) : ev 215 963 [a0, a1, a2, a3] (aI x :: aR 34 0 :: r) σ = ev 215 964 [a0, a1, a2, a3] (aI (gI σ 34 0 x) :: r) σ := ev_ldS f_Law_law_963 rfl h
theorem f_Law_law_964 : fetch 215 964 = some (.invokevirtual 106) := by decide +kernel
theorem e_Law_law_964 (a0 a1 a2 a3 : AV) (σ : aM) (s0 : Int) (s1 : Int) (s2 : Int) (s3 : Int) : ev 215 964 [a0, a1, a2, a3] [aI s3, aI s2, aR 25 s1, aI s0] σ = evK 215 967 [a0, a1, a2, a3] [aI s0] (ev 193 0 [aR 25 s1, aI s2, aI s3] [] σ) := ev_call f_Law_law_964 rfl rfl
theorem f_Law_law_967 : fetch 215 967 = some (.if_icmp .eq 357) := by decide +kernel
theorem e_Law_law_967 (a0 a1 a2 a3 : AV) (σ : aM) (x z : Int) (r : List AV) : ev 215 967 [a0, a1, a2, a3] (aI z :: aI x :: r) σ = if x = z then ev 215 1324 [a0, a1, a2, a3] r σ else ev 215 970 [a0, a1, a2, a3] r σ := ev_br f_Law_law_967 rfl bc_eq
theorem f_Law_law_970 : fetch 215 970 = some (.iconst 0) := by decide +kernel
theorem e_Law_law_970 (a0 a1 a2 a3 : AV) (σ : aM) (r : List AV)  : ev 215 970 [a0, a1, a2, a3] (r) σ = ev 215 971 [a0, a1, a2, a3] (aI 0 :: r) σ := ev_go f_Law_law_970 rfl
theorem f_Law_law_971 : fetch 215 971 = some (.ireturn) := by decide +kernel
theorem e_Law_law_971 (a0 a1 a2 a3 : AV) (σ : aM) (x : Int) (h : x = 0 ∨ x = 1) : ev 215 971 [a0, a1, a2, a3] [aI x] σ = some ((some (aI x)), σ) := ev_rB f_Law_law_971 rfl h
theorem f_Law_law_972 : fetch 215 972 = some (.aload_n 1) := by decide +kernel
theorem e_Law_law_972 (a0 a2 a3 : AV) (σ : aM) (l1 : Option (Nat × Int)) (r : List AV)  : ev 215 972 [a0, aQ l1, a2, a3] (r) σ = ev 215 973 [a0, aQ l1, a2, a3] (aQ l1 :: r) σ := ev_go f_Law_law_972 rfl
theorem f_Law_law_973 : fetch 215 973 = some (.aload_n 0) := by decide +kernel
theorem e_Law_law_973 (a1 a2 a3 : AV) (σ : aM) (l0 : Option (Nat × Int)) (r : List AV)  : ev 215 973 [aQ l0, a1, a2, a3] (r) σ = ev 215 974 [aQ l0, a1, a2, a3] (aQ l0 :: r) σ := ev_go f_Law_law_973 rfl
theorem f_Law_law_974 : fetch 215 974 = some (.iload_n 3) := by decide +kernel
theorem e_Law_law_974 (a0 a1 a2 : AV) (σ : aM) (l3 : Int) (r : List AV)  : ev 215 974 [a0, a1, a2, aI l3] (r) σ = ev 215 975 [a0, a1, a2, aI l3] (aI l3 :: r) σ := ev_go f_Law_law_974 rfl
theorem f_Law_law_975 : fetch 215 975 = some (.iconst 1) := by decide +kernel
theorem e_Law_law_975 (a0 a1 a2 a3 : AV) (σ : aM) (r : List AV)  : ev 215 975 [a0, a1, a2, a3] (r) σ = ev 215 976 [a0, a1, a2, a3] (aI 1 :: r) σ := ev_go f_Law_law_975 rfl
theorem f_Law_law_976 : fetch 215 976 = some (.iadd) := by decide +kernel
theorem e_Law_law_976 (a0 a1 a2 a3 : AV) (σ : aM) (x z : Int) (r : List AV)  : ev 215 976 [a0, a1, a2, a3] (aI z :: aI x :: r) σ = ev 215 977 [a0, a1, a2, a3] (aI (wr (x + z)) :: r) σ := ev_go f_Law_law_976 rfl
theorem f_Law_law_977 : fetch 215 977 = some (.iaload) := by decide +kernel
theorem e_Law_law_977 (a0 a1 a2 a3 : AV) (σ : aM) (x : Int) (r : List AV) (h : 0 ≤ x ∧ x < gI σ 34 0 (-1)) : ev 215 977 [a0, a1, a2, a3] (aI x :: aR 34 0 :: r) σ = ev 215 978 [a0, a1, a2, a3] (aI (gI σ 34 0 x) :: r) σ := ev_ldS f_Law_law_977 rfl h
theorem f_Law_law_978 : fetch 215 978 = some (.aload_n 0) := by decide +kernel
theorem e_Law_law_978 (a1 a2 a3 : AV) (σ : aM) (l0 : Option (Nat × Int)) (r : List AV)  : ev 215 978 [aQ l0, a1, a2, a3] (r) σ = ev 215 979 [aQ l0, a1, a2, a3] (aQ l0 :: r) σ := ev_go f_Law_law_978 rfl
theorem f_Law_law_979 : fetch 215 979 = some (.iload_n 3) := by decide +kernel
theorem e_Law_law_979 (a0 a1 a2 : AV) (σ : aM) (l3 : Int) (r : List AV)  : ev 215 979 [a0, a1, a2, aI l3] (r) σ = ev 215 980 [a0, a1, a2, aI l3] (aI l3 :: r) σ := ev_go f_Law_law_979 rfl
theorem f_Law_law_980 : fetch 215 980 = some (.iconst 2) := by decide +kernel
theorem e_Law_law_980 (a0 a1 a2 a3 : AV) (σ : aM) (r : List AV)  : ev 215 980 [a0, a1, a2, a3] (r) σ = ev 215 981 [a0, a1, a2, a3] (aI 2 :: r) σ := ev_go f_Law_law_980 rfl
theorem f_Law_law_981 : fetch 215 981 = some (.iadd) := by decide +kernel
theorem e_Law_law_981 (a0 a1 a2 a3 : AV) (σ : aM) (x z : Int) (r : List AV)  : ev 215 981 [a0, a1, a2, a3] (aI z :: aI x :: r) σ = ev 215 982 [a0, a1, a2, a3] (aI (wr (x + z)) :: r) σ := ev_go f_Law_law_981 rfl
theorem f_Law_law_982 : fetch 215 982 = some (.iaload) := by decide +kernel
theorem e_Law_law_982 (a0 a1 a2 a3 : AV) (σ : aM) (x : Int) (r : List AV) (h : 0 ≤ x ∧ x < gI σ 34 0 (-1)) : ev 215 982 [a0, a1, a2, a3] (aI x :: aR 34 0 :: r) σ = ev 215 983 [a0, a1, a2, a3] (aI (gI σ 34 0 x) :: r) σ := ev_ldS f_Law_law_982 rfl h
theorem f_Law_law_983 : fetch 215 983 = some (.invokevirtual 107) := by decide +kernel
theorem e_Law_law_983 (a0 a1 a2 a3 : AV) (σ : aM) (s0 : Int) (s1 : Int) (s2 : Int) : ev 215 983 [a0, a1, a2, a3] [aI s2, aI s1, aR 0 s0] σ = evK 215 986 [a0, a1, a2, a3] [] (ev 99 0 [aR 0 s0, aI s1, aI s2, aU] [] σ) := ev_call f_Law_law_983 rfl rfl
theorem f_Law_law_986 : fetch 215 986 = some (.aload_n 2) := by decide +kernel
theorem e_Law_law_986 (a0 a1 a3 : AV) (σ : aM) (l2 : Option (Nat × Int)) (r : List AV)  : ev 215 986 [a0, a1, aQ l2, a3] (r) σ = ev 215 987 [a0, a1, aQ l2, a3] (aQ l2 :: r) σ := ev_go f_Law_law_986 rfl
theorem f_Law_law_987 : fetch 215 987 = some (.aload_n 0) := by decide +kernel
theorem e_Law_law_987 (a1 a2 a3 : AV) (σ : aM) (l0 : Option (Nat × Int)) (r : List AV)  : ev 215 987 [aQ l0, a1, a2, a3] (r) σ = ev 215 988 [aQ l0, a1, a2, a3] (aQ l0 :: r) σ := ev_go f_Law_law_987 rfl
theorem f_Law_law_988 : fetch 215 988 = some (.iload_n 3) := by decide +kernel
theorem e_Law_law_988 (a0 a1 a2 : AV) (σ : aM) (l3 : Int) (r : List AV)  : ev 215 988 [a0, a1, a2, aI l3] (r) σ = ev 215 989 [a0, a1, a2, aI l3] (aI l3 :: r) σ := ev_go f_Law_law_988 rfl
theorem f_Law_law_989 : fetch 215 989 = some (.iconst 1) := by decide +kernel
theorem e_Law_law_989 (a0 a1 a2 a3 : AV) (σ : aM) (r : List AV)  : ev 215 989 [a0, a1, a2, a3] (r) σ = ev 215 990 [a0, a1, a2, a3] (aI 1 :: r) σ := ev_go f_Law_law_989 rfl
theorem f_Law_law_990 : fetch 215 990 = some (.iadd) := by decide +kernel
theorem e_Law_law_990 (a0 a1 a2 a3 : AV) (σ : aM) (x z : Int) (r : List AV)  : ev 215 990 [a0, a1, a2, a3] (aI z :: aI x :: r) σ = ev 215 991 [a0, a1, a2, a3] (aI (wr (x + z)) :: r) σ := ev_go f_Law_law_990 rfl
theorem f_Law_law_991 : fetch 215 991 = some (.iaload) := by decide +kernel
theorem e_Law_law_991 (a0 a1 a2 a3 : AV) (σ : aM) (x : Int) (r : List AV) (h : 0 ≤ x ∧ x < gI σ 34 0 (-1)) : ev 215 991 [a0, a1, a2, a3] (aI x :: aR 34 0 :: r) σ = ev 215 992 [a0, a1, a2, a3] (aI (gI σ 34 0 x) :: r) σ := ev_ldS f_Law_law_991 rfl h
theorem f_Law_law_992 : fetch 215 992 = some (.aload_n 0) := by decide +kernel
theorem e_Law_law_992 (a1 a2 a3 : AV) (σ : aM) (l0 : Option (Nat × Int)) (r : List AV)  : ev 215 992 [aQ l0, a1, a2, a3] (r) σ = ev 215 993 [aQ l0, a1, a2, a3] (aQ l0 :: r) σ := ev_go f_Law_law_992 rfl
theorem f_Law_law_993 : fetch 215 993 = some (.iload_n 3) := by decide +kernel
theorem e_Law_law_993 (a0 a1 a2 : AV) (σ : aM) (l3 : Int) (r : List AV)  : ev 215 993 [a0, a1, a2, aI l3] (r) σ = ev 215 994 [a0, a1, a2, aI l3] (aI l3 :: r) σ := ev_go f_Law_law_993 rfl
theorem f_Law_law_994 : fetch 215 994 = some (.iconst 2) := by decide +kernel
theorem e_Law_law_994 (a0 a1 a2 a3 : AV) (σ : aM) (r : List AV)  : ev 215 994 [a0, a1, a2, a3] (r) σ = ev 215 995 [a0, a1, a2, a3] (aI 2 :: r) σ := ev_go f_Law_law_994 rfl
theorem f_Law_law_995 : fetch 215 995 = some (.iadd) := by decide +kernel
theorem e_Law_law_995 (a0 a1 a2 a3 : AV) (σ : aM) (x z : Int) (r : List AV)  : ev 215 995 [a0, a1, a2, a3] (aI z :: aI x :: r) σ = ev 215 996 [a0, a1, a2, a3] (aI (wr (x + z)) :: r) σ := ev_go f_Law_law_995 rfl
theorem f_Law_law_996 : fetch 215 996 = some (.iaload) := by decide +kernel
theorem e_Law_law_996 (a0 a1 a2 a3 : AV) (σ : aM) (x : Int) (r : List AV) (h : 0 ≤ x ∧ x < gI σ 34 0 (-1)) : ev 215 996 [a0, a1, a2, a3] (aI x :: aR 34 0 :: r) σ = ev 215 997 [a0, a1, a2, a3] (aI (gI σ 34 0 x) :: r) σ := ev_ldS f_Law_law_996 rfl h
theorem f_Law_law_997 : fetch 215 997 = some (.invokevirtual 110) := by decide +kernel
theorem e_Law_law_997 (a0 a1 a2 a3 : AV) (σ : aM) (s0 : Int) (s1 : Int) (s2 : Int) (s3 : Int) : ev 215 997 [a0, a1, a2, a3] [aI s3, aI s2, aR 25 s1, aI s0] σ = evK 215 1000 [a0, a1, a2, a3] [aI s0] (ev 195 0 [aR 25 s1, aI s2, aI s3] [] σ) := ev_call f_Law_law_997 rfl rfl
theorem f_Law_law_1000 : fetch 215 1000 = some (.if_icmp .eq 324) := by decide +kernel
theorem e_Law_law_1000 (a0 a1 a2 a3 : AV) (σ : aM) (x z : Int) (r : List AV) : ev 215 1000 [a0, a1, a2, a3] (aI z :: aI x :: r) σ = if x = z then ev 215 1324 [a0, a1, a2, a3] r σ else ev 215 1003 [a0, a1, a2, a3] r σ := ev_br f_Law_law_1000 rfl bc_eq
theorem f_Law_law_1003 : fetch 215 1003 = some (.iconst 0) := by decide +kernel
theorem e_Law_law_1003 (a0 a1 a2 a3 : AV) (σ : aM) (r : List AV)  : ev 215 1003 [a0, a1, a2, a3] (r) σ = ev 215 1004 [a0, a1, a2, a3] (aI 0 :: r) σ := ev_go f_Law_law_1003 rfl
theorem f_Law_law_1004 : fetch 215 1004 = some (.ireturn) := by decide +kernel
theorem e_Law_law_1004 (a0 a1 a2 a3 : AV) (σ : aM) (x : Int) (h : x = 0 ∨ x = 1) : ev 215 1004 [a0, a1, a2, a3] [aI x] σ = some ((some (aI x)), σ) := ev_rB f_Law_law_1004 rfl h
theorem f_Law_law_1005 : fetch 215 1005 = some (.aload_n 1) := by decide +kernel
theorem e_Law_law_1005 (a0 a2 a3 : AV) (σ : aM) (l1 : Option (Nat × Int)) (r : List AV)  : ev 215 1005 [a0, aQ l1, a2, a3] (r) σ = ev 215 1006 [a0, aQ l1, a2, a3] (aQ l1 :: r) σ := ev_go f_Law_law_1005 rfl
theorem f_Law_law_1006 : fetch 215 1006 = some (.aload_n 0) := by decide +kernel
theorem e_Law_law_1006 (a1 a2 a3 : AV) (σ : aM) (l0 : Option (Nat × Int)) (r : List AV)  : ev 215 1006 [aQ l0, a1, a2, a3] (r) σ = ev 215 1007 [aQ l0, a1, a2, a3] (aQ l0 :: r) σ := ev_go f_Law_law_1006 rfl
theorem f_Law_law_1007 : fetch 215 1007 = some (.iload_n 3) := by decide +kernel
theorem e_Law_law_1007 (a0 a1 a2 : AV) (σ : aM) (l3 : Int) (r : List AV)  : ev 215 1007 [a0, a1, a2, aI l3] (r) σ = ev 215 1008 [a0, a1, a2, aI l3] (aI l3 :: r) σ := ev_go f_Law_law_1007 rfl
theorem f_Law_law_1008 : fetch 215 1008 = some (.iconst 1) := by decide +kernel
theorem e_Law_law_1008 (a0 a1 a2 a3 : AV) (σ : aM) (r : List AV)  : ev 215 1008 [a0, a1, a2, a3] (r) σ = ev 215 1009 [a0, a1, a2, a3] (aI 1 :: r) σ := ev_go f_Law_law_1008 rfl
theorem f_Law_law_1009 : fetch 215 1009 = some (.iadd) := by decide +kernel
theorem e_Law_law_1009 (a0 a1 a2 a3 : AV) (σ : aM) (x z : Int) (r : List AV)  : ev 215 1009 [a0, a1, a2, a3] (aI z :: aI x :: r) σ = ev 215 1010 [a0, a1, a2, a3] (aI (wr (x + z)) :: r) σ := ev_go f_Law_law_1009 rfl
theorem f_Law_law_1010 : fetch 215 1010 = some (.iaload) := by decide +kernel
theorem e_Law_law_1010 (a0 a1 a2 a3 : AV) (σ : aM) (x : Int) (r : List AV) (h : 0 ≤ x ∧ x < gI σ 34 0 (-1)) : ev 215 1010 [a0, a1, a2, a3] (aI x :: aR 34 0 :: r) σ = ev 215 1011 [a0, a1, a2, a3] (aI (gI σ 34 0 x) :: r) σ := ev_ldS f_Law_law_1010 rfl h
theorem f_Law_law_1011 : fetch 215 1011 = some (.aload_n 0) := by decide +kernel
theorem e_Law_law_1011 (a1 a2 a3 : AV) (σ : aM) (l0 : Option (Nat × Int)) (r : List AV)  : ev 215 1011 [aQ l0, a1, a2, a3] (r) σ = ev 215 1012 [aQ l0, a1, a2, a3] (aQ l0 :: r) σ := ev_go f_Law_law_1011 rfl
theorem f_Law_law_1012 : fetch 215 1012 = some (.iload_n 3) := by decide +kernel
theorem e_Law_law_1012 (a0 a1 a2 : AV) (σ : aM) (l3 : Int) (r : List AV)  : ev 215 1012 [a0, a1, a2, aI l3] (r) σ = ev 215 1013 [a0, a1, a2, aI l3] (aI l3 :: r) σ := ev_go f_Law_law_1012 rfl
theorem f_Law_law_1013 : fetch 215 1013 = some (.iconst 2) := by decide +kernel
theorem e_Law_law_1013 (a0 a1 a2 a3 : AV) (σ : aM) (r : List AV)  : ev 215 1013 [a0, a1, a2, a3] (r) σ = ev 215 1014 [a0, a1, a2, a3] (aI 2 :: r) σ := ev_go f_Law_law_1013 rfl
theorem f_Law_law_1014 : fetch 215 1014 = some (.iadd) := by decide +kernel
theorem e_Law_law_1014 (a0 a1 a2 a3 : AV) (σ : aM) (x z : Int) (r : List AV)  : ev 215 1014 [a0, a1, a2, a3] (aI z :: aI x :: r) σ = ev 215 1015 [a0, a1, a2, a3] (aI (wr (x + z)) :: r) σ := ev_go f_Law_law_1014 rfl
theorem f_Law_law_1015 : fetch 215 1015 = some (.iaload) := by decide +kernel
theorem e_Law_law_1015 (a0 a1 a2 a3 : AV) (σ : aM) (x : Int) (r : List AV) (h : 0 ≤ x ∧ x < gI σ 34 0 (-1)) : ev 215 1015 [a0, a1, a2, a3] (aI x :: aR 34 0 :: r) σ = ev 215 1016 [a0, a1, a2, a3] (aI (gI σ 34 0 x) :: r) σ := ev_ldS f_Law_law_1015 rfl h
theorem f_Law_law_1016 : fetch 215 1016 = some (.aload_n 0) := by decide +kernel
theorem e_Law_law_1016 (a1 a2 a3 : AV) (σ : aM) (l0 : Option (Nat × Int)) (r : List AV)  : ev 215 1016 [aQ l0, a1, a2, a3] (r) σ = ev 215 1017 [aQ l0, a1, a2, a3] (aQ l0 :: r) σ := ev_go f_Law_law_1016 rfl
theorem f_Law_law_1017 : fetch 215 1017 = some (.iload_n 3) := by decide +kernel
theorem e_Law_law_1017 (a0 a1 a2 : AV) (σ : aM) (l3 : Int) (r : List AV)  : ev 215 1017 [a0, a1, a2, aI l3] (r) σ = ev 215 1018 [a0, a1, a2, aI l3] (aI l3 :: r) σ := ev_go f_Law_law_1017 rfl
theorem f_Law_law_1018 : fetch 215 1018 = some (.iconst 3) := by decide +kernel
theorem e_Law_law_1018 (a0 a1 a2 a3 : AV) (σ : aM) (r : List AV)  : ev 215 1018 [a0, a1, a2, a3] (r) σ = ev 215 1019 [a0, a1, a2, a3] (aI 3 :: r) σ := ev_go f_Law_law_1018 rfl
theorem f_Law_law_1019 : fetch 215 1019 = some (.iadd) := by decide +kernel
theorem e_Law_law_1019 (a0 a1 a2 a3 : AV) (σ : aM) (x z : Int) (r : List AV)  : ev 215 1019 [a0, a1, a2, a3] (aI z :: aI x :: r) σ = ev 215 1020 [a0, a1, a2, a3] (aI (wr (x + z)) :: r) σ := ev_go f_Law_law_1019 rfl
theorem f_Law_law_1020 : fetch 215 1020 = some (.iaload) := by decide +kernel
theorem e_Law_law_1020 (a0 a1 a2 a3 : AV) (σ : aM) (x : Int) (r : List AV) (h : 0 ≤ x ∧ x < gI σ 34 0 (-1)) : ev 215 1020 [a0, a1, a2, a3] (aI x :: aR 34 0 :: r) σ = ev 215 1021 [a0, a1, a2, a3] (aI (gI σ 34 0 x) :: r) σ := ev_ldS f_Law_law_1020 rfl h
theorem f_Law_law_1021 : fetch 215 1021 = some (.invokevirtual 111) := by decide +kernel
theorem e_Law_law_1021 (a0 a1 a2 a3 : AV) (σ : aM) (s0 : Int) (s1 : Int) (s2 : Int) (s3 : Int) : ev 215 1021 [a0, a1, a2, a3] [aI s3, aI s2, aI s1, aR 0 s0] σ = evK 215 1024 [a0, a1, a2, a3] [] (ev 100 0 [aR 0 s0, aI s1, aI s2, aI s3, aU] [] σ) := ev_call f_Law_law_1021 rfl rfl
theorem f_Law_law_1024 : fetch 215 1024 = some (.aload_n 2) := by decide +kernel
theorem e_Law_law_1024 (a0 a1 a3 : AV) (σ : aM) (l2 : Option (Nat × Int)) (r : List AV)  : ev 215 1024 [a0, a1, aQ l2, a3] (r) σ = ev 215 1025 [a0, a1, aQ l2, a3] (aQ l2 :: r) σ := ev_go f_Law_law_1024 rfl
theorem f_Law_law_1025 : fetch 215 1025 = some (.aload_n 0) := by decide +kernel
theorem e_Law_law_1025 (a1 a2 a3 : AV) (σ : aM) (l0 : Option (Nat × Int)) (r : List AV)  : ev 215 1025 [aQ l0, a1, a2, a3] (r) σ = ev 215 1026 [aQ l0, a1, a2, a3] (aQ l0 :: r) σ := ev_go f_Law_law_1025 rfl
theorem f_Law_law_1026 : fetch 215 1026 = some (.iload_n 3) := by decide +kernel
theorem e_Law_law_1026 (a0 a1 a2 : AV) (σ : aM) (l3 : Int) (r : List AV)  : ev 215 1026 [a0, a1, a2, aI l3] (r) σ = ev 215 1027 [a0, a1, a2, aI l3] (aI l3 :: r) σ := ev_go f_Law_law_1026 rfl
theorem f_Law_law_1027 : fetch 215 1027 = some (.iconst 1) := by decide +kernel
theorem e_Law_law_1027 (a0 a1 a2 a3 : AV) (σ : aM) (r : List AV)  : ev 215 1027 [a0, a1, a2, a3] (r) σ = ev 215 1028 [a0, a1, a2, a3] (aI 1 :: r) σ := ev_go f_Law_law_1027 rfl
theorem f_Law_law_1028 : fetch 215 1028 = some (.iadd) := by decide +kernel
theorem e_Law_law_1028 (a0 a1 a2 a3 : AV) (σ : aM) (x z : Int) (r : List AV)  : ev 215 1028 [a0, a1, a2, a3] (aI z :: aI x :: r) σ = ev 215 1029 [a0, a1, a2, a3] (aI (wr (x + z)) :: r) σ := ev_go f_Law_law_1028 rfl
theorem f_Law_law_1029 : fetch 215 1029 = some (.iaload) := by decide +kernel
theorem e_Law_law_1029 (a0 a1 a2 a3 : AV) (σ : aM) (x : Int) (r : List AV) (h : 0 ≤ x ∧ x < gI σ 34 0 (-1)) : ev 215 1029 [a0, a1, a2, a3] (aI x :: aR 34 0 :: r) σ = ev 215 1030 [a0, a1, a2, a3] (aI (gI σ 34 0 x) :: r) σ := ev_ldS f_Law_law_1029 rfl h
theorem f_Law_law_1030 : fetch 215 1030 = some (.aload_n 0) := by decide +kernel
theorem e_Law_law_1030 (a1 a2 a3 : AV) (σ : aM) (l0 : Option (Nat × Int)) (r : List AV)  : ev 215 1030 [aQ l0, a1, a2, a3] (r) σ = ev 215 1031 [aQ l0, a1, a2, a3] (aQ l0 :: r) σ := ev_go f_Law_law_1030 rfl
theorem f_Law_law_1031 : fetch 215 1031 = some (.iload_n 3) := by decide +kernel
theorem e_Law_law_1031 (a0 a1 a2 : AV) (σ : aM) (l3 : Int) (r : List AV)  : ev 215 1031 [a0, a1, a2, aI l3] (r) σ = ev 215 1032 [a0, a1, a2, aI l3] (aI l3 :: r) σ := ev_go f_Law_law_1031 rfl
theorem f_Law_law_1032 : fetch 215 1032 = some (.iconst 2) := by decide +kernel
theorem e_Law_law_1032 (a0 a1 a2 a3 : AV) (σ : aM) (r : List AV)  : ev 215 1032 [a0, a1, a2, a3] (r) σ = ev 215 1033 [a0, a1, a2, a3] (aI 2 :: r) σ := ev_go f_Law_law_1032 rfl
theorem f_Law_law_1033 : fetch 215 1033 = some (.iadd) := by decide +kernel
theorem e_Law_law_1033 (a0 a1 a2 a3 : AV) (σ : aM) (x z : Int) (r : List AV)  : ev 215 1033 [a0, a1, a2, a3] (aI z :: aI x :: r) σ = ev 215 1034 [a0, a1, a2, a3] (aI (wr (x + z)) :: r) σ := ev_go f_Law_law_1033 rfl
theorem f_Law_law_1034 : fetch 215 1034 = some (.iaload) := by decide +kernel
theorem e_Law_law_1034 (a0 a1 a2 a3 : AV) (σ : aM) (x : Int) (r : List AV) (h : 0 ≤ x ∧ x < gI σ 34 0 (-1)) : ev 215 1034 [a0, a1, a2, a3] (aI x :: aR 34 0 :: r) σ = ev 215 1035 [a0, a1, a2, a3] (aI (gI σ 34 0 x) :: r) σ := ev_ldS f_Law_law_1034 rfl h
theorem f_Law_law_1035 : fetch 215 1035 = some (.aload_n 0) := by decide +kernel
theorem e_Law_law_1035 (a1 a2 a3 : AV) (σ : aM) (l0 : Option (Nat × Int)) (r : List AV)  : ev 215 1035 [aQ l0, a1, a2, a3] (r) σ = ev 215 1036 [aQ l0, a1, a2, a3] (aQ l0 :: r) σ := ev_go f_Law_law_1035 rfl
theorem f_Law_law_1036 : fetch 215 1036 = some (.iload_n 3) := by decide +kernel
theorem e_Law_law_1036 (a0 a1 a2 : AV) (σ : aM) (l3 : Int) (r : List AV)  : ev 215 1036 [a0, a1, a2, aI l3] (r) σ = ev 215 1037 [a0, a1, a2, aI l3] (aI l3 :: r) σ := ev_go f_Law_law_1036 rfl
theorem f_Law_law_1037 : fetch 215 1037 = some (.iconst 3) := by decide +kernel
theorem e_Law_law_1037 (a0 a1 a2 a3 : AV) (σ : aM) (r : List AV)  : ev 215 1037 [a0, a1, a2, a3] (r) σ = ev 215 1038 [a0, a1, a2, a3] (aI 3 :: r) σ := ev_go f_Law_law_1037 rfl
theorem f_Law_law_1038 : fetch 215 1038 = some (.iadd) := by decide +kernel
theorem e_Law_law_1038 (a0 a1 a2 a3 : AV) (σ : aM) (x z : Int) (r : List AV)  : ev 215 1038 [a0, a1, a2, a3] (aI z :: aI x :: r) σ = ev 215 1039 [a0, a1, a2, a3] (aI (wr (x + z)) :: r) σ := ev_go f_Law_law_1038 rfl
theorem f_Law_law_1039 : fetch 215 1039 = some (.iaload) := by decide +kernel
theorem e_Law_law_1039 (a0 a1 a2 a3 : AV) (σ : aM) (x : Int) (r : List AV) (h : 0 ≤ x ∧ x < gI σ 34 0 (-1)) : ev 215 1039 [a0, a1, a2, a3] (aI x :: aR 34 0 :: r) σ = ev 215 1040 [a0, a1, a2, a3] (aI (gI σ 34 0 x) :: r) σ := ev_ldS f_Law_law_1039 rfl h
theorem f_Law_law_1040 : fetch 215 1040 = some (.invokevirtual 114) := by decide +kernel
theorem e_Law_law_1040 (a0 a1 a2 a3 : AV) (σ : aM) (s0 : Int) (s1 : Int) (s2 : Int) (s3 : Int) (s4 : Int) : ev 215 1040 [a0, a1, a2, a3] [aI s4, aI s3, aI s2, aR 25 s1, aI s0] σ = evK 215 1043 [a0, a1, a2, a3] [aI s0] (ev 196 0 [aR 25 s1, aI s2, aI s3, aI s4, aU, aU, aU, aU, aU] [] σ) := ev_call f_Law_law_1040 rfl rfl
theorem f_Law_law_1043 : fetch 215 1043 = some (.if_icmp .eq 281) := by decide +kernel
theorem e_Law_law_1043 (a0 a1 a2 a3 : AV) (σ : aM) (x z : Int) (r : List AV) : ev 215 1043 [a0, a1, a2, a3] (aI z :: aI x :: r) σ = if x = z then ev 215 1324 [a0, a1, a2, a3] r σ else ev 215 1046 [a0, a1, a2, a3] r σ := ev_br f_Law_law_1043 rfl bc_eq
theorem f_Law_law_1046 : fetch 215 1046 = some (.iconst 0) := by decide +kernel
theorem e_Law_law_1046 (a0 a1 a2 a3 : AV) (σ : aM) (r : List AV)  : ev 215 1046 [a0, a1, a2, a3] (r) σ = ev 215 1047 [a0, a1, a2, a3] (aI 0 :: r) σ := ev_go f_Law_law_1046 rfl
theorem f_Law_law_1047 : fetch 215 1047 = some (.ireturn) := by decide +kernel
theorem e_Law_law_1047 (a0 a1 a2 a3 : AV) (σ : aM) (x : Int) (h : x = 0 ∨ x = 1) : ev 215 1047 [a0, a1, a2, a3] [aI x] σ = some ((some (aI x)), σ) := ev_rB f_Law_law_1047 rfl h
theorem f_Law_law_1048 : fetch 215 1048 = some (.aload_n 1) := by decide +kernel
theorem e_Law_law_1048 (a0 a2 a3 : AV) (σ : aM) (l1 : Option (Nat × Int)) (r : List AV)  : ev 215 1048 [a0, aQ l1, a2, a3] (r) σ = ev 215 1049 [a0, aQ l1, a2, a3] (aQ l1 :: r) σ := ev_go f_Law_law_1048 rfl
theorem f_Law_law_1049 : fetch 215 1049 = some (.aload_n 0) := by decide +kernel
theorem e_Law_law_1049 (a1 a2 a3 : AV) (σ : aM) (l0 : Option (Nat × Int)) (r : List AV)  : ev 215 1049 [aQ l0, a1, a2, a3] (r) σ = ev 215 1050 [aQ l0, a1, a2, a3] (aQ l0 :: r) σ := ev_go f_Law_law_1049 rfl
theorem f_Law_law_1050 : fetch 215 1050 = some (.iload_n 3) := by decide +kernel
theorem e_Law_law_1050 (a0 a1 a2 : AV) (σ : aM) (l3 : Int) (r : List AV)  : ev 215 1050 [a0, a1, a2, aI l3] (r) σ = ev 215 1051 [a0, a1, a2, aI l3] (aI l3 :: r) σ := ev_go f_Law_law_1050 rfl
theorem f_Law_law_1051 : fetch 215 1051 = some (.iconst 1) := by decide +kernel
theorem e_Law_law_1051 (a0 a1 a2 a3 : AV) (σ : aM) (r : List AV)  : ev 215 1051 [a0, a1, a2, a3] (r) σ = ev 215 1052 [a0, a1, a2, a3] (aI 1 :: r) σ := ev_go f_Law_law_1051 rfl
theorem f_Law_law_1052 : fetch 215 1052 = some (.iadd) := by decide +kernel
theorem e_Law_law_1052 (a0 a1 a2 a3 : AV) (σ : aM) (x z : Int) (r : List AV)  : ev 215 1052 [a0, a1, a2, a3] (aI z :: aI x :: r) σ = ev 215 1053 [a0, a1, a2, a3] (aI (wr (x + z)) :: r) σ := ev_go f_Law_law_1052 rfl
theorem f_Law_law_1053 : fetch 215 1053 = some (.iaload) := by decide +kernel
theorem e_Law_law_1053 (a0 a1 a2 a3 : AV) (σ : aM) (x : Int) (r : List AV) (h : 0 ≤ x ∧ x < gI σ 34 0 (-1)) : ev 215 1053 [a0, a1, a2, a3] (aI x :: aR 34 0 :: r) σ = ev 215 1054 [a0, a1, a2, a3] (aI (gI σ 34 0 x) :: r) σ := ev_ldS f_Law_law_1053 rfl h
theorem f_Law_law_1054 : fetch 215 1054 = some (.invokevirtual 115) := by decide +kernel
theorem e_Law_law_1054 (a0 a1 a2 a3 : AV) (σ : aM) (s0 : Int) (s1 : Int) : ev 215 1054 [a0, a1, a2, a3] [aI s1, aR 0 s0] σ = evK 215 1057 [a0, a1, a2, a3] [] (ev 101 0 [aR 0 s0, aI s1, aU] [] σ) := ev_call f_Law_law_1054 rfl rfl
theorem f_Law_law_1057 : fetch 215 1057 = some (.aload_n 2) := by decide +kernel
theorem e_Law_law_1057 (a0 a1 a3 : AV) (σ : aM) (l2 : Option (Nat × Int)) (r : List AV)  : ev 215 1057 [a0, a1, aQ l2, a3] (r) σ = ev 215 1058 [a0, a1, aQ l2, a3] (aQ l2 :: r) σ := ev_go f_Law_law_1057 rfl
theorem f_Law_law_1058 : fetch 215 1058 = some (.aload_n 0) := by decide +kernel
theorem e_Law_law_1058 (a1 a2 a3 : AV) (σ : aM) (l0 : Option (Nat × Int)) (r : List AV)  : ev 215 1058 [aQ l0, a1, a2, a3] (r) σ = ev 215 1059 [aQ l0, a1, a2, a3] (aQ l0 :: r) σ := ev_go f_Law_law_1058 rfl
theorem f_Law_law_1059 : fetch 215 1059 = some (.iload_n 3) := by decide +kernel
theorem e_Law_law_1059 (a0 a1 a2 : AV) (σ : aM) (l3 : Int) (r : List AV)  : ev 215 1059 [a0, a1, a2, aI l3] (r) σ = ev 215 1060 [a0, a1, a2, aI l3] (aI l3 :: r) σ := ev_go f_Law_law_1059 rfl
theorem f_Law_law_1060 : fetch 215 1060 = some (.iconst 1) := by decide +kernel
theorem e_Law_law_1060 (a0 a1 a2 a3 : AV) (σ : aM) (r : List AV)  : ev 215 1060 [a0, a1, a2, a3] (r) σ = ev 215 1061 [a0, a1, a2, a3] (aI 1 :: r) σ := ev_go f_Law_law_1060 rfl
theorem f_Law_law_1061 : fetch 215 1061 = some (.iadd) := by decide +kernel
theorem e_Law_law_1061 (a0 a1 a2 a3 : AV) (σ : aM) (x z : Int) (r : List AV)  : ev 215 1061 [a0, a1, a2, a3] (aI z :: aI x :: r) σ = ev 215 1062 [a0, a1, a2, a3] (aI (wr (x + z)) :: r) σ := ev_go f_Law_law_1061 rfl
theorem f_Law_law_1062 : fetch 215 1062 = some (.iaload) := by decide +kernel
theorem e_Law_law_1062 (a0 a1 a2 a3 : AV) (σ : aM) (x : Int) (r : List AV) (h : 0 ≤ x ∧ x < gI σ 34 0 (-1)) : ev 215 1062 [a0, a1, a2, a3] (aI x :: aR 34 0 :: r) σ = ev 215 1063 [a0, a1, a2, a3] (aI (gI σ 34 0 x) :: r) σ := ev_ldS f_Law_law_1062 rfl h
theorem f_Law_law_1063 : fetch 215 1063 = some (.invokevirtual 118) := by decide +kernel
theorem e_Law_law_1063 (a0 a1 a2 a3 : AV) (σ : aM) (s0 : Int) (s1 : Int) (s2 : Int) : ev 215 1063 [a0, a1, a2, a3] [aI s2, aR 25 s1, aI s0] σ = evK 215 1066 [a0, a1, a2, a3] [aI s0] (ev 197 0 [aR 25 s1, aI s2, aU, aU] [] σ) := ev_call f_Law_law_1063 rfl rfl
theorem f_Law_law_1066 : fetch 215 1066 = some (.if_icmp .eq 258) := by decide +kernel
theorem e_Law_law_1066 (a0 a1 a2 a3 : AV) (σ : aM) (x z : Int) (r : List AV) : ev 215 1066 [a0, a1, a2, a3] (aI z :: aI x :: r) σ = if x = z then ev 215 1324 [a0, a1, a2, a3] r σ else ev 215 1069 [a0, a1, a2, a3] r σ := ev_br f_Law_law_1066 rfl bc_eq
theorem f_Law_law_1069 : fetch 215 1069 = some (.iconst 0) := by decide +kernel
theorem e_Law_law_1069 (a0 a1 a2 a3 : AV) (σ : aM) (r : List AV)  : ev 215 1069 [a0, a1, a2, a3] (r) σ = ev 215 1070 [a0, a1, a2, a3] (aI 0 :: r) σ := ev_go f_Law_law_1069 rfl
theorem f_Law_law_1070 : fetch 215 1070 = some (.ireturn) := by decide +kernel
theorem e_Law_law_1070 (a0 a1 a2 a3 : AV) (σ : aM) (x : Int) (h : x = 0 ∨ x = 1) : ev 215 1070 [a0, a1, a2, a3] [aI x] σ = some ((some (aI x)), σ) := ev_rB f_Law_law_1070 rfl h
theorem f_Law_law_1071 : fetch 215 1071 = some (.aload_n 1) := by decide +kernel
theorem e_Law_law_1071 (a0 a2 a3 : AV) (σ : aM) (l1 : Option (Nat × Int)) (r : List AV)  : ev 215 1071 [a0, aQ l1, a2, a3] (r) σ = ev 215 1072 [a0, aQ l1, a2, a3] (aQ l1 :: r) σ := ev_go f_Law_law_1071 rfl
theorem f_Law_law_1072 : fetch 215 1072 = some (.aload_n 0) := by decide +kernel
theorem e_Law_law_1072 (a1 a2 a3 : AV) (σ : aM) (l0 : Option (Nat × Int)) (r : List AV)  : ev 215 1072 [aQ l0, a1, a2, a3] (r) σ = ev 215 1073 [aQ l0, a1, a2, a3] (aQ l0 :: r) σ := ev_go f_Law_law_1072 rfl
theorem f_Law_law_1073 : fetch 215 1073 = some (.iload_n 3) := by decide +kernel
theorem e_Law_law_1073 (a0 a1 a2 : AV) (σ : aM) (l3 : Int) (r : List AV)  : ev 215 1073 [a0, a1, a2, aI l3] (r) σ = ev 215 1074 [a0, a1, a2, aI l3] (aI l3 :: r) σ := ev_go f_Law_law_1073 rfl
theorem f_Law_law_1074 : fetch 215 1074 = some (.iconst 1) := by decide +kernel
theorem e_Law_law_1074 (a0 a1 a2 a3 : AV) (σ : aM) (r : List AV)  : ev 215 1074 [a0, a1, a2, a3] (r) σ = ev 215 1075 [a0, a1, a2, a3] (aI 1 :: r) σ := ev_go f_Law_law_1074 rfl
theorem f_Law_law_1075 : fetch 215 1075 = some (.iadd) := by decide +kernel
theorem e_Law_law_1075 (a0 a1 a2 a3 : AV) (σ : aM) (x z : Int) (r : List AV)  : ev 215 1075 [a0, a1, a2, a3] (aI z :: aI x :: r) σ = ev 215 1076 [a0, a1, a2, a3] (aI (wr (x + z)) :: r) σ := ev_go f_Law_law_1075 rfl
theorem f_Law_law_1076 : fetch 215 1076 = some (.iaload) := by decide +kernel
theorem e_Law_law_1076 (a0 a1 a2 a3 : AV) (σ : aM) (x : Int) (r : List AV) (h : 0 ≤ x ∧ x < gI σ 34 0 (-1)) : ev 215 1076 [a0, a1, a2, a3] (aI x :: aR 34 0 :: r) σ = ev 215 1077 [a0, a1, a2, a3] (aI (gI σ 34 0 x) :: r) σ := ev_ldS f_Law_law_1076 rfl h
theorem f_Law_law_1077 : fetch 215 1077 = some (.aload_n 0) := by decide +kernel
theorem e_Law_law_1077 (a1 a2 a3 : AV) (σ : aM) (l0 : Option (Nat × Int)) (r : List AV)  : ev 215 1077 [aQ l0, a1, a2, a3] (r) σ = ev 215 1078 [aQ l0, a1, a2, a3] (aQ l0 :: r) σ := ev_go f_Law_law_1077 rfl
theorem f_Law_law_1078 : fetch 215 1078 = some (.iload_n 3) := by decide +kernel
theorem e_Law_law_1078 (a0 a1 a2 : AV) (σ : aM) (l3 : Int) (r : List AV)  : ev 215 1078 [a0, a1, a2, aI l3] (r) σ = ev 215 1079 [a0, a1, a2, aI l3] (aI l3 :: r) σ := ev_go f_Law_law_1078 rfl
theorem f_Law_law_1079 : fetch 215 1079 = some (.iconst 2) := by decide +kernel
theorem e_Law_law_1079 (a0 a1 a2 a3 : AV) (σ : aM) (r : List AV)  : ev 215 1079 [a0, a1, a2, a3] (r) σ = ev 215 1080 [a0, a1, a2, a3] (aI 2 :: r) σ := ev_go f_Law_law_1079 rfl
theorem f_Law_law_1080 : fetch 215 1080 = some (.iadd) := by decide +kernel
theorem e_Law_law_1080 (a0 a1 a2 a3 : AV) (σ : aM) (x z : Int) (r : List AV)  : ev 215 1080 [a0, a1, a2, a3] (aI z :: aI x :: r) σ = ev 215 1081 [a0, a1, a2, a3] (aI (wr (x + z)) :: r) σ := ev_go f_Law_law_1080 rfl
theorem f_Law_law_1081 : fetch 215 1081 = some (.iaload) := by decide +kernel
theorem e_Law_law_1081 (a0 a1 a2 a3 : AV) (σ : aM) (x : Int) (r : List AV) (h : 0 ≤ x ∧ x < gI σ 34 0 (-1)) : ev 215 1081 [a0, a1, a2, a3] (aI x :: aR 34 0 :: r) σ = ev 215 1082 [a0, a1, a2, a3] (aI (gI σ 34 0 x) :: r) σ := ev_ldS f_Law_law_1081 rfl h
theorem f_Law_law_1082 : fetch 215 1082 = some (.invokevirtual 119) := by decide +kernel
theorem e_Law_law_1082 (a0 a1 a2 a3 : AV) (σ : aM) (s0 : Int) (s1 : Int) (s2 : Int) : ev 215 1082 [a0, a1, a2, a3] [aI s2, aI s1, aR 0 s0] σ = evK 215 1085 [a0, a1, a2, a3] [] (ev 102 0 [aR 0 s0, aI s1, aI s2] [] σ) := ev_call f_Law_law_1082 rfl rfl
theorem f_Law_law_1085 : fetch 215 1085 = some (.aload_n 2) := by decide +kernel
theorem e_Law_law_1085 (a0 a1 a3 : AV) (σ : aM) (l2 : Option (Nat × Int)) (r : List AV)  : ev 215 1085 [a0, a1, aQ l2, a3] (r) σ = ev 215 1086 [a0, a1, aQ l2, a3] (aQ l2 :: r) σ := ev_go f_Law_law_1085 rfl
theorem f_Law_law_1086 : fetch 215 1086 = some (.aload_n 0) := by decide +kernel
theorem e_Law_law_1086 (a1 a2 a3 : AV) (σ : aM) (l0 : Option (Nat × Int)) (r : List AV)  : ev 215 1086 [aQ l0, a1, a2, a3] (r) σ = ev 215 1087 [aQ l0, a1, a2, a3] (aQ l0 :: r) σ := ev_go f_Law_law_1086 rfl
theorem f_Law_law_1087 : fetch 215 1087 = some (.iload_n 3) := by decide +kernel
theorem e_Law_law_1087 (a0 a1 a2 : AV) (σ : aM) (l3 : Int) (r : List AV)  : ev 215 1087 [a0, a1, a2, aI l3] (r) σ = ev 215 1088 [a0, a1, a2, aI l3] (aI l3 :: r) σ := ev_go f_Law_law_1087 rfl
theorem f_Law_law_1088 : fetch 215 1088 = some (.iconst 1) := by decide +kernel
theorem e_Law_law_1088 (a0 a1 a2 a3 : AV) (σ : aM) (r : List AV)  : ev 215 1088 [a0, a1, a2, a3] (r) σ = ev 215 1089 [a0, a1, a2, a3] (aI 1 :: r) σ := ev_go f_Law_law_1088 rfl
theorem f_Law_law_1089 : fetch 215 1089 = some (.iadd) := by decide +kernel
theorem e_Law_law_1089 (a0 a1 a2 a3 : AV) (σ : aM) (x z : Int) (r : List AV)  : ev 215 1089 [a0, a1, a2, a3] (aI z :: aI x :: r) σ = ev 215 1090 [a0, a1, a2, a3] (aI (wr (x + z)) :: r) σ := ev_go f_Law_law_1089 rfl
theorem f_Law_law_1090 : fetch 215 1090 = some (.iaload) := by decide +kernel
theorem e_Law_law_1090 (a0 a1 a2 a3 : AV) (σ : aM) (x : Int) (r : List AV) (h : 0 ≤ x ∧ x < gI σ 34 0 (-1)) : ev 215 1090 [a0, a1, a2, a3] (aI x :: aR 34 0 :: r) σ = ev 215 1091 [a0, a1, a2, a3] (aI (gI σ 34 0 x) :: r) σ := ev_ldS f_Law_law_1090 rfl h
theorem f_Law_law_1091 : fetch 215 1091 = some (.aload_n 0) := by decide +kernel
theorem e_Law_law_1091 (a1 a2 a3 : AV) (σ : aM) (l0 : Option (Nat × Int)) (r : List AV)  : ev 215 1091 [aQ l0, a1, a2, a3] (r) σ = ev 215 1092 [aQ l0, a1, a2, a3] (aQ l0 :: r) σ := ev_go f_Law_law_1091 rfl
theorem f_Law_law_1092 : fetch 215 1092 = some (.iload_n 3) := by decide +kernel
theorem e_Law_law_1092 (a0 a1 a2 : AV) (σ : aM) (l3 : Int) (r : List AV)  : ev 215 1092 [a0, a1, a2, aI l3] (r) σ = ev 215 1093 [a0, a1, a2, aI l3] (aI l3 :: r) σ := ev_go f_Law_law_1092 rfl
theorem f_Law_law_1093 : fetch 215 1093 = some (.iconst 2) := by decide +kernel
theorem e_Law_law_1093 (a0 a1 a2 a3 : AV) (σ : aM) (r : List AV)  : ev 215 1093 [a0, a1, a2, a3] (r) σ = ev 215 1094 [a0, a1, a2, a3] (aI 2 :: r) σ := ev_go f_Law_law_1093 rfl
theorem f_Law_law_1094 : fetch 215 1094 = some (.iadd) := by decide +kernel
theorem e_Law_law_1094 (a0 a1 a2 a3 : AV) (σ : aM) (x z : Int) (r : List AV)  : ev 215 1094 [a0, a1, a2, a3] (aI z :: aI x :: r) σ = ev 215 1095 [a0, a1, a2, a3] (aI (wr (x + z)) :: r) σ := ev_go f_Law_law_1094 rfl
theorem f_Law_law_1095 : fetch 215 1095 = some (.iaload) := by decide +kernel
theorem e_Law_law_1095 (a0 a1 a2 a3 : AV) (σ : aM) (x : Int) (r : List AV) (h : 0 ≤ x ∧ x < gI σ 34 0 (-1)) : ev 215 1095 [a0, a1, a2, a3] (aI x :: aR 34 0 :: r) σ = ev 215 1096 [a0, a1, a2, a3] (aI (gI σ 34 0 x) :: r) σ := ev_ldS f_Law_law_1095 rfl h
theorem f_Law_law_1096 : fetch 215 1096 = some (.invokevirtual 122) := by decide +kernel
theorem e_Law_law_1096 (a0 a1 a2 a3 : AV) (σ : aM) (s0 : Int) (s1 : Int) (s2 : Int) (s3 : Int) : ev 215 1096 [a0, a1, a2, a3] [aI s3, aI s2, aR 25 s1, aI s0] σ = evK 215 1099 [a0, a1, a2, a3] [aI s0] (ev 198 0 [aR 25 s1, aI s2, aI s3, aU, aU, aU, aU, aU] [] σ) := ev_call f_Law_law_1096 rfl rfl
theorem f_Law_law_1099 : fetch 215 1099 = some (.if_icmp .eq 225) := by decide +kernel
theorem e_Law_law_1099 (a0 a1 a2 a3 : AV) (σ : aM) (x z : Int) (r : List AV) : ev 215 1099 [a0, a1, a2, a3] (aI z :: aI x :: r) σ = if x = z then ev 215 1324 [a0, a1, a2, a3] r σ else ev 215 1102 [a0, a1, a2, a3] r σ := ev_br f_Law_law_1099 rfl bc_eq
theorem f_Law_law_1102 : fetch 215 1102 = some (.iconst 0) := by decide +kernel
theorem e_Law_law_1102 (a0 a1 a2 a3 : AV) (σ : aM) (r : List AV)  : ev 215 1102 [a0, a1, a2, a3] (r) σ = ev 215 1103 [a0, a1, a2, a3] (aI 0 :: r) σ := ev_go f_Law_law_1102 rfl
theorem f_Law_law_1103 : fetch 215 1103 = some (.ireturn) := by decide +kernel
theorem e_Law_law_1103 (a0 a1 a2 a3 : AV) (σ : aM) (x : Int) (h : x = 0 ∨ x = 1) : ev 215 1103 [a0, a1, a2, a3] [aI x] σ = some ((some (aI x)), σ) := ev_rB f_Law_law_1103 rfl h
theorem f_Law_law_1104 : fetch 215 1104 = some (.aload_n 1) := by decide +kernel
theorem e_Law_law_1104 (a0 a2 a3 : AV) (σ : aM) (l1 : Option (Nat × Int)) (r : List AV)  : ev 215 1104 [a0, aQ l1, a2, a3] (r) σ = ev 215 1105 [a0, aQ l1, a2, a3] (aQ l1 :: r) σ := ev_go f_Law_law_1104 rfl
theorem f_Law_law_1105 : fetch 215 1105 = some (.invokevirtual 123) := by decide +kernel
theorem e_Law_law_1105 (a0 a1 a2 a3 : AV) (σ : aM) (s0 : Int) : ev 215 1105 [a0, a1, a2, a3] [aR 0 s0] σ = evK 215 1108 [a0, a1, a2, a3] [] (ev 103 0 [aR 0 s0] [] σ) := ev_call f_Law_law_1105 rfl rfl
theorem f_Law_law_1108 : fetch 215 1108 = some (.aload_n 2) := by decide +kernel
theorem e_Law_law_1108 (a0 a1 a3 : AV) (σ : aM) (l2 : Option (Nat × Int)) (r : List AV)  : ev 215 1108 [a0, a1, aQ l2, a3] (r) σ = ev 215 1109 [a0, a1, aQ l2, a3] (aQ l2 :: r) σ := ev_go f_Law_law_1108 rfl
theorem f_Law_law_1109 : fetch 215 1109 = some (.invokevirtual 126) := by decide +kernel
theorem e_Law_law_1109 (a0 a1 a2 a3 : AV) (σ : aM) (s0 : Int) (s1 : Int) : ev 215 1109 [a0, a1, a2, a3] [aR 25 s1, aI s0] σ = evK 215 1112 [a0, a1, a2, a3] [aI s0] (ev 199 0 [aR 25 s1] [] σ) := ev_call f_Law_law_1109 rfl rfl
theorem f_Law_law_1112 : fetch 215 1112 = some (.if_icmp .eq 212) := by decide +kernel
theorem e_Law_law_1112 (a0 a1 a2 a3 : AV) (σ : aM) (x z : Int) (r : List AV) : ev 215 1112 [a0, a1, a2, a3] (aI z :: aI x :: r) σ = if x = z then ev 215 1324 [a0, a1, a2, a3] r σ else ev 215 1115 [a0, a1, a2, a3] r σ := ev_br f_Law_law_1112 rfl bc_eq
theorem f_Law_law_1115 : fetch 215 1115 = some (.iconst 0) := by decide +kernel
theorem e_Law_law_1115 (a0 a1 a2 a3 : AV) (σ : aM) (r : List AV)  : ev 215 1115 [a0, a1, a2, a3] (r) σ = ev 215 1116 [a0, a1, a2, a3] (aI 0 :: r) σ := ev_go f_Law_law_1115 rfl
theorem f_Law_law_1116 : fetch 215 1116 = some (.ireturn) := by decide +kernel
theorem e_Law_law_1116 (a0 a1 a2 a3 : AV) (σ : aM) (x : Int) (h : x = 0 ∨ x = 1) : ev 215 1116 [a0, a1, a2, a3] [aI x] σ = some ((some (aI x)), σ) := ev_rB f_Law_law_1116 rfl h
theorem f_Law_law_1117 : fetch 215 1117 = some (.aload_n 1) := by decide +kernel
theorem e_Law_law_1117 (a0 a2 a3 : AV) (σ : aM) (l1 : Option (Nat × Int)) (r : List AV)  : ev 215 1117 [a0, aQ l1, a2, a3] (r) σ = ev 215 1118 [a0, aQ l1, a2, a3] (aQ l1 :: r) σ := ev_go f_Law_law_1117 rfl
theorem f_Law_law_1118 : fetch 215 1118 = some (.aload_n 0) := by decide +kernel
theorem e_Law_law_1118 (a1 a2 a3 : AV) (σ : aM) (l0 : Option (Nat × Int)) (r : List AV)  : ev 215 1118 [aQ l0, a1, a2, a3] (r) σ = ev 215 1119 [aQ l0, a1, a2, a3] (aQ l0 :: r) σ := ev_go f_Law_law_1118 rfl
theorem f_Law_law_1119 : fetch 215 1119 = some (.iload_n 3) := by decide +kernel
theorem e_Law_law_1119 (a0 a1 a2 : AV) (σ : aM) (l3 : Int) (r : List AV)  : ev 215 1119 [a0, a1, a2, aI l3] (r) σ = ev 215 1120 [a0, a1, a2, aI l3] (aI l3 :: r) σ := ev_go f_Law_law_1119 rfl
theorem f_Law_law_1120 : fetch 215 1120 = some (.iconst 1) := by decide +kernel
theorem e_Law_law_1120 (a0 a1 a2 a3 : AV) (σ : aM) (r : List AV)  : ev 215 1120 [a0, a1, a2, a3] (r) σ = ev 215 1121 [a0, a1, a2, a3] (aI 1 :: r) σ := ev_go f_Law_law_1120 rfl
theorem f_Law_law_1121 : fetch 215 1121 = some (.iadd) := by decide +kernel
theorem e_Law_law_1121 (a0 a1 a2 a3 : AV) (σ : aM) (x z : Int) (r : List AV)  : ev 215 1121 [a0, a1, a2, a3] (aI z :: aI x :: r) σ = ev 215 1122 [a0, a1, a2, a3] (aI (wr (x + z)) :: r) σ := ev_go f_Law_law_1121 rfl
theorem f_Law_law_1122 : fetch 215 1122 = some (.iaload) := by decide +kernel
theorem e_Law_law_1122 (a0 a1 a2 a3 : AV) (σ : aM) (x : Int) (r : List AV) (h : 0 ≤ x ∧ x < gI σ 34 0 (-1)) : ev 215 1122 [a0, a1, a2, a3] (aI x :: aR 34 0 :: r) σ = ev 215 1123 [a0, a1, a2, a3] (aI (gI σ 34 0 x) :: r) σ := ev_ldS f_Law_law_1122 rfl h
theorem f_Law_law_1123 : fetch 215 1123 = some (.aload_n 0) := by decide +kernel
theorem e_Law_law_1123 (a1 a2 a3 : AV) (σ : aM) (l0 : Option (Nat × Int)) (r : List AV)  : ev 215 1123 [aQ l0, a1, a2, a3] (r) σ = ev 215 1124 [aQ l0, a1, a2, a3] (aQ l0 :: r) σ := ev_go f_Law_law_1123 rfl
theorem f_Law_law_1124 : fetch 215 1124 = some (.iload_n 3) := by decide +kernel
theorem e_Law_law_1124 (a0 a1 a2 : AV) (σ : aM) (l3 : Int) (r : List AV)  : ev 215 1124 [a0, a1, a2, aI l3] (r) σ = ev 215 1125 [a0, a1, a2, aI l3] (aI l3 :: r) σ := ev_go f_Law_law_1124 rfl
theorem f_Law_law_1125 : fetch 215 1125 = some (.iconst 2) := by decide +kernel
theorem e_Law_law_1125 (a0 a1 a2 a3 : AV) (σ : aM) (r : List AV)  : ev 215 1125 [a0, a1, a2, a3] (r) σ = ev 215 1126 [a0, a1, a2, a3] (aI 2 :: r) σ := ev_go f_Law_law_1125 rfl
theorem f_Law_law_1126 : fetch 215 1126 = some (.iadd) := by decide +kernel
theorem e_Law_law_1126 (a0 a1 a2 a3 : AV) (σ : aM) (x z : Int) (r : List AV)  : ev 215 1126 [a0, a1, a2, a3] (aI z :: aI x :: r) σ = ev 215 1127 [a0, a1, a2, a3] (aI (wr (x + z)) :: r) σ := ev_go f_Law_law_1126 rfl
theorem f_Law_law_1127 : fetch 215 1127 = some (.iaload) := by decide +kernel
theorem e_Law_law_1127 (a0 a1 a2 a3 : AV) (σ : aM) (x : Int) (r : List AV) (h : 0 ≤ x ∧ x < gI σ 34 0 (-1)) : ev 215 1127 [a0, a1, a2, a3] (aI x :: aR 34 0 :: r) σ = ev 215 1128 [a0, a1, a2, a3] (aI (gI σ 34 0 x) :: r) σ := ev_ldS f_Law_law_1127 rfl h
theorem f_Law_law_1128 : fetch 215 1128 = some (.invokevirtual 127) := by decide +kernel
theorem e_Law_law_1128 (a0 a1 a2 a3 : AV) (σ : aM) (s0 : Int) (s1 : Int) (s2 : Int) : ev 215 1128 [a0, a1, a2, a3] [aI s2, aI s1, aR 0 s0] σ = evK 215 1131 [a0, a1, a2, a3] [] (ev 104 0 [aR 0 s0, aI s1, aI s2] [] σ) := ev_call f_Law_law_1128 rfl rfl
theorem f_Law_law_1131 : fetch 215 1131 = some (.aload_n 2) := by decide +kernel
theorem e_Law_law_1131 (a0 a1 a3 : AV) (σ : aM) (l2 : Option (Nat × Int)) (r : List AV)  : ev 215 1131 [a0, a1, aQ l2, a3] (r) σ = ev 215 1132 [a0, a1, aQ l2, a3] (aQ l2 :: r) σ := ev_go f_Law_law_1131 rfl
theorem f_Law_law_1132 : fetch 215 1132 = some (.aload_n 0) := by decide +kernel
theorem e_Law_law_1132 (a1 a2 a3 : AV) (σ : aM) (l0 : Option (Nat × Int)) (r : List AV)  : ev 215 1132 [aQ l0, a1, a2, a3] (r) σ = ev 215 1133 [aQ l0, a1, a2, a3] (aQ l0 :: r) σ := ev_go f_Law_law_1132 rfl
theorem f_Law_law_1133 : fetch 215 1133 = some (.iload_n 3) := by decide +kernel
theorem e_Law_law_1133 (a0 a1 a2 : AV) (σ : aM) (l3 : Int) (r : List AV)  : ev 215 1133 [a0, a1, a2, aI l3] (r) σ = ev 215 1134 [a0, a1, a2, aI l3] (aI l3 :: r) σ := ev_go f_Law_law_1133 rfl
theorem f_Law_law_1134 : fetch 215 1134 = some (.iconst 1) := by decide +kernel
theorem e_Law_law_1134 (a0 a1 a2 a3 : AV) (σ : aM) (r : List AV)  : ev 215 1134 [a0, a1, a2, a3] (r) σ = ev 215 1135 [a0, a1, a2, a3] (aI 1 :: r) σ := ev_go f_Law_law_1134 rfl
theorem f_Law_law_1135 : fetch 215 1135 = some (.iadd) := by decide +kernel
theorem e_Law_law_1135 (a0 a1 a2 a3 : AV) (σ : aM) (x z : Int) (r : List AV)  : ev 215 1135 [a0, a1, a2, a3] (aI z :: aI x :: r) σ = ev 215 1136 [a0, a1, a2, a3] (aI (wr (x + z)) :: r) σ := ev_go f_Law_law_1135 rfl
theorem f_Law_law_1136 : fetch 215 1136 = some (.iaload) := by decide +kernel
theorem e_Law_law_1136 (a0 a1 a2 a3 : AV) (σ : aM) (x : Int) (r : List AV) (h : 0 ≤ x ∧ x < gI σ 34 0 (-1)) : ev 215 1136 [a0, a1, a2, a3] (aI x :: aR 34 0 :: r) σ = ev 215 1137 [a0, a1, a2, a3] (aI (gI σ 34 0 x) :: r) σ := ev_ldS f_Law_law_1136 rfl h
theorem f_Law_law_1137 : fetch 215 1137 = some (.aload_n 0) := by decide +kernel
theorem e_Law_law_1137 (a1 a2 a3 : AV) (σ : aM) (l0 : Option (Nat × Int)) (r : List AV)  : ev 215 1137 [aQ l0, a1, a2, a3] (r) σ = ev 215 1138 [aQ l0, a1, a2, a3] (aQ l0 :: r) σ := ev_go f_Law_law_1137 rfl
theorem f_Law_law_1138 : fetch 215 1138 = some (.iload_n 3) := by decide +kernel
theorem e_Law_law_1138 (a0 a1 a2 : AV) (σ : aM) (l3 : Int) (r : List AV)  : ev 215 1138 [a0, a1, a2, aI l3] (r) σ = ev 215 1139 [a0, a1, a2, aI l3] (aI l3 :: r) σ := ev_go f_Law_law_1138 rfl
theorem f_Law_law_1139 : fetch 215 1139 = some (.iconst 2) := by decide +kernel
theorem e_Law_law_1139 (a0 a1 a2 a3 : AV) (σ : aM) (r : List AV)  : ev 215 1139 [a0, a1, a2, a3] (r) σ = ev 215 1140 [a0, a1, a2, a3] (aI 2 :: r) σ := ev_go f_Law_law_1139 rfl
theorem f_Law_law_1140 : fetch 215 1140 = some (.iadd) := by decide +kernel
theorem e_Law_law_1140 (a0 a1 a2 a3 : AV) (σ : aM) (x z : Int) (r : List AV)  : ev 215 1140 [a0, a1, a2, a3] (aI z :: aI x :: r) σ = ev 215 1141 [a0, a1, a2, a3] (aI (wr (x + z)) :: r) σ := ev_go f_Law_law_1140 rfl
theorem f_Law_law_1141 : fetch 215 1141 = some (.iaload) := by decide +kernel
theorem e_Law_law_1141 (a0 a1 a2 a3 : AV) (σ : aM) (x : Int) (r : List AV) (h : 0 ≤ x ∧ x < gI σ 34 0 (-1)) : ev 215 1141 [a0, a1, a2, a3] (aI x :: aR 34 0 :: r) σ = ev 215 1142 [a0, a1, a2, a3] (aI (gI σ 34 0 x) :: r) σ := ev_ldS f_Law_law_1141 rfl h
theorem f_Law_law_1142 : fetch 215 1142 = some (.invokevirtual 130) := by decide +kernel
theorem e_Law_law_1142 (a0 a1 a2 a3 : AV) (σ : aM) (s0 : Int) (s1 : Int) (s2 : Int) (s3 : Int) : ev 215 1142 [a0, a1, a2, a3] [aI s3, aI s2, aR 25 s1, aI s0] σ = evK 215 1145 [a0, a1, a2, a3] [aI s0] (ev 201 0 [aR 25 s1, aI s2, aI s3] [] σ) := ev_call f_Law_law_1142 rfl rfl
theorem f_Law_law_1145 : fetch 215 1145 = some (.if_icmp .eq 179) := by decide +kernel
theorem e_Law_law_1145 (a0 a1 a2 a3 : AV) (σ : aM) (x z : Int) (r : List AV) : ev 215 1145 [a0, a1, a2, a3] (aI z :: aI x :: r) σ = if x = z then ev 215 1324 [a0, a1, a2, a3] r σ else ev 215 1148 [a0, a1, a2, a3] r σ := ev_br f_Law_law_1145 rfl bc_eq
theorem f_Law_law_1148 : fetch 215 1148 = some (.iconst 0) := by decide +kernel
theorem e_Law_law_1148 (a0 a1 a2 a3 : AV) (σ : aM) (r : List AV)  : ev 215 1148 [a0, a1, a2, a3] (r) σ = ev 215 1149 [a0, a1, a2, a3] (aI 0 :: r) σ := ev_go f_Law_law_1148 rfl
theorem f_Law_law_1149 : fetch 215 1149 = some (.ireturn) := by decide +kernel
theorem e_Law_law_1149 (a0 a1 a2 a3 : AV) (σ : aM) (x : Int) (h : x = 0 ∨ x = 1) : ev 215 1149 [a0, a1, a2, a3] [aI x] σ = some ((some (aI x)), σ) := ev_rB f_Law_law_1149 rfl h
theorem f_Law_law_1150 : fetch 215 1150 = some (.aload_n 1) := by decide +kernel
theorem e_Law_law_1150 (a0 a2 a3 : AV) (σ : aM) (l1 : Option (Nat × Int)) (r : List AV)  : ev 215 1150 [a0, aQ l1, a2, a3] (r) σ = ev 215 1151 [a0, aQ l1, a2, a3] (aQ l1 :: r) σ := ev_go f_Law_law_1150 rfl
theorem f_Law_law_1151 : fetch 215 1151 = some (.aload_n 0) := by decide +kernel
theorem e_Law_law_1151 (a1 a2 a3 : AV) (σ : aM) (l0 : Option (Nat × Int)) (r : List AV)  : ev 215 1151 [aQ l0, a1, a2, a3] (r) σ = ev 215 1152 [aQ l0, a1, a2, a3] (aQ l0 :: r) σ := ev_go f_Law_law_1151 rfl
theorem f_Law_law_1152 : fetch 215 1152 = some (.iload_n 3) := by decide +kernel
theorem e_Law_law_1152 (a0 a1 a2 : AV) (σ : aM) (l3 : Int) (r : List AV)  : ev 215 1152 [a0, a1, a2, aI l3] (r) σ = ev 215 1153 [a0, a1, a2, aI l3] (aI l3 :: r) σ := ev_go f_Law_law_1152 rfl
theorem f_Law_law_1153 : fetch 215 1153 = some (.iconst 1) := by decide +kernel
theorem e_Law_law_1153 (a0 a1 a2 a3 : AV) (σ : aM) (r : List AV)  : ev 215 1153 [a0, a1, a2, a3] (r) σ = ev 215 1154 [a0, a1, a2, a3] (aI 1 :: r) σ := ev_go f_Law_law_1153 rfl
theorem f_Law_law_1154 : fetch 215 1154 = some (.iadd) := by decide +kernel
theorem e_Law_law_1154 (a0 a1 a2 a3 : AV) (σ : aM) (x z : Int) (r : List AV)  : ev 215 1154 [a0, a1, a2, a3] (aI z :: aI x :: r) σ = ev 215 1155 [a0, a1, a2, a3] (aI (wr (x + z)) :: r) σ := ev_go f_Law_law_1154 rfl
theorem f_Law_law_1155 : fetch 215 1155 = some (.iaload) := by decide +kernel
theorem e_Law_law_1155 (a0 a1 a2 a3 : AV) (σ : aM) (x : Int) (r : List AV) (h : 0 ≤ x ∧ x < gI σ 34 0 (-1)) : ev 215 1155 [a0, a1, a2, a3] (aI x :: aR 34 0 :: r) σ = ev 215 1156 [a0, a1, a2, a3] (aI (gI σ 34 0 x) :: r) σ := ev_ldS f_Law_law_1155 rfl h
theorem f_Law_law_1156 : fetch 215 1156 = some (.invokevirtual 131) := by decide +kernel
theorem e_Law_law_1156 (a0 a1 a2 a3 : AV) (σ : aM) (s0 : Int) (s1 : Int) : ev 215 1156 [a0, a1, a2, a3] [aI s1, aR 0 s0] σ = evK 215 1159 [a0, a1, a2, a3] [] (ev 105 0 [aR 0 s0, aI s1] [] σ) := ev_call f_Law_law_1156 rfl rfl
theorem f_Law_law_1159 : fetch 215 1159 = some (.aload_n 2) := by decide +kernel
theorem e_Law_law_1159 (a0 a1 a3 : AV) (σ : aM) (l2 : Option (Nat × Int)) (r : List AV)  : ev 215 1159 [a0, a1, aQ l2, a3] (r) σ = ev 215 1160 [a0, a1, aQ l2, a3] (aQ l2 :: r) σ := ev_go f_Law_law_1159 rfl
theorem f_Law_law_1160 : fetch 215 1160 = some (.aload_n 0) := by decide +kernel
theorem e_Law_law_1160 (a1 a2 a3 : AV) (σ : aM) (l0 : Option (Nat × Int)) (r : List AV)  : ev 215 1160 [aQ l0, a1, a2, a3] (r) σ = ev 215 1161 [aQ l0, a1, a2, a3] (aQ l0 :: r) σ := ev_go f_Law_law_1160 rfl
theorem f_Law_law_1161 : fetch 215 1161 = some (.iload_n 3) := by decide +kernel
theorem e_Law_law_1161 (a0 a1 a2 : AV) (σ : aM) (l3 : Int) (r : List AV)  : ev 215 1161 [a0, a1, a2, aI l3] (r) σ = ev 215 1162 [a0, a1, a2, aI l3] (aI l3 :: r) σ := ev_go f_Law_law_1161 rfl
theorem f_Law_law_1162 : fetch 215 1162 = some (.iconst 1) := by decide +kernel
theorem e_Law_law_1162 (a0 a1 a2 a3 : AV) (σ : aM) (r : List AV)  : ev 215 1162 [a0, a1, a2, a3] (r) σ = ev 215 1163 [a0, a1, a2, a3] (aI 1 :: r) σ := ev_go f_Law_law_1162 rfl
theorem f_Law_law_1163 : fetch 215 1163 = some (.iadd) := by decide +kernel
theorem e_Law_law_1163 (a0 a1 a2 a3 : AV) (σ : aM) (x z : Int) (r : List AV)  : ev 215 1163 [a0, a1, a2, a3] (aI z :: aI x :: r) σ = ev 215 1164 [a0, a1, a2, a3] (aI (wr (x + z)) :: r) σ := ev_go f_Law_law_1163 rfl
theorem f_Law_law_1164 : fetch 215 1164 = some (.iaload) := by decide +kernel
theorem e_Law_law_1164 (a0 a1 a2 a3 : AV) (σ : aM) (x : Int) (r : List AV) (h : 0 ≤ x ∧ x < gI σ 34 0 (-1)) : ev 215 1164 [a0, a1, a2, a3] (aI x :: aR 34 0 :: r) σ = ev 215 1165 [a0, a1, a2, a3] (aI (gI σ 34 0 x) :: r) σ := ev_ldS f_Law_law_1164 rfl h
theorem f_Law_law_1165 : fetch 215 1165 = some (.invokevirtual 134) := by decide +kernel
theorem e_Law_law_1165 (a0 a1 a2 a3 : AV) (σ : aM) (s0 : Int) (s1 : Int) (s2 : Int) : ev 215 1165 [a0, a1, a2, a3] [aI s2, aR 25 s1, aI s0] σ = evK 215 1168 [a0, a1, a2, a3] [aI s0] (ev 202 0 [aR 25 s1, aI s2] [] σ) := ev_call f_Law_law_1165 rfl rfl
theorem f_Law_law_1168 : fetch 215 1168 = some (.if_icmp .eq 156) := by decide +kernel
theorem e_Law_law_1168 (a0 a1 a2 a3 : AV) (σ : aM) (x z : Int) (r : List AV) : ev 215 1168 [a0, a1, a2, a3] (aI z :: aI x :: r) σ = if x = z then ev 215 1324 [a0, a1, a2, a3] r σ else ev 215 1171 [a0, a1, a2, a3] r σ := ev_br f_Law_law_1168 rfl bc_eq
theorem f_Law_law_1171 : fetch 215 1171 = some (.iconst 0) := by decide +kernel
theorem e_Law_law_1171 (a0 a1 a2 a3 : AV) (σ : aM) (r : List AV)  : ev 215 1171 [a0, a1, a2, a3] (r) σ = ev 215 1172 [a0, a1, a2, a3] (aI 0 :: r) σ := ev_go f_Law_law_1171 rfl
theorem f_Law_law_1172 : fetch 215 1172 = some (.ireturn) := by decide +kernel
theorem e_Law_law_1172 (a0 a1 a2 a3 : AV) (σ : aM) (x : Int) (h : x = 0 ∨ x = 1) : ev 215 1172 [a0, a1, a2, a3] [aI x] σ = some ((some (aI x)), σ) := ev_rB f_Law_law_1172 rfl h
theorem f_Law_law_1173 : fetch 215 1173 = some (.aload_n 1) := by decide +kernel
theorem e_Law_law_1173 (a0 a2 a3 : AV) (σ : aM) (l1 : Option (Nat × Int)) (r : List AV)  : ev 215 1173 [a0, aQ l1, a2, a3] (r) σ = ev 215 1174 [a0, aQ l1, a2, a3] (aQ l1 :: r) σ := ev_go f_Law_law_1173 rfl
theorem f_Law_law_1174 : fetch 215 1174 = some (.aload_n 0) := by decide +kernel
theorem e_Law_law_1174 (a1 a2 a3 : AV) (σ : aM) (l0 : Option (Nat × Int)) (r : List AV)  : ev 215 1174 [aQ l0, a1, a2, a3] (r) σ = ev 215 1175 [aQ l0, a1, a2, a3] (aQ l0 :: r) σ := ev_go f_Law_law_1174 rfl
theorem f_Law_law_1175 : fetch 215 1175 = some (.iload_n 3) := by decide +kernel
theorem e_Law_law_1175 (a0 a1 a2 : AV) (σ : aM) (l3 : Int) (r : List AV)  : ev 215 1175 [a0, a1, a2, aI l3] (r) σ = ev 215 1176 [a0, a1, a2, aI l3] (aI l3 :: r) σ := ev_go f_Law_law_1175 rfl
theorem f_Law_law_1176 : fetch 215 1176 = some (.iconst 1) := by decide +kernel
theorem e_Law_law_1176 (a0 a1 a2 a3 : AV) (σ : aM) (r : List AV)  : ev 215 1176 [a0, a1, a2, a3] (r) σ = ev 215 1177 [a0, a1, a2, a3] (aI 1 :: r) σ := ev_go f_Law_law_1176 rfl
theorem f_Law_law_1177 : fetch 215 1177 = some (.iadd) := by decide +kernel
theorem e_Law_law_1177 (a0 a1 a2 a3 : AV) (σ : aM) (x z : Int) (r : List AV)  : ev 215 1177 [a0, a1, a2, a3] (aI z :: aI x :: r) σ = ev 215 1178 [a0, a1, a2, a3] (aI (wr (x + z)) :: r) σ := ev_go f_Law_law_1177 rfl
theorem f_Law_law_1178 : fetch 215 1178 = some (.iaload) := by decide +kernel
theorem e_Law_law_1178 (a0 a1 a2 a3 : AV) (σ : aM) (x : Int) (r : List AV) (h : 0 ≤ x ∧ x < gI σ 34 0 (-1)) : ev 215 1178 [a0, a1, a2, a3] (aI x :: aR 34 0 :: r) σ = ev 215 1179 [a0, a1, a2, a3] (aI (gI σ 34 0 x) :: r) σ := ev_ldS f_Law_law_1178 rfl h
theorem f_Law_law_1179 : fetch 215 1179 = some (.invokevirtual 135) := by decide +kernel
theorem e_Law_law_1179 (a0 a1 a2 a3 : AV) (σ : aM) (s0 : Int) (s1 : Int) : ev 215 1179 [a0, a1, a2, a3] [aI s1, aR 0 s0] σ = evK 215 1182 [a0, a1, a2, a3] [] (ev 106 0 [aR 0 s0, aI s1] [] σ) := ev_call f_Law_law_1179 rfl rfl
theorem f_Law_law_1182 : fetch 215 1182 = some (.aload_n 2) := by decide +kernel
theorem e_Law_law_1182 (a0 a1 a3 : AV) (σ : aM) (l2 : Option (Nat × Int)) (r : List AV)  : ev 215 1182 [a0, a1, aQ l2, a3] (r) σ = ev 215 1183 [a0, a1, aQ l2, a3] (aQ l2 :: r) σ := ev_go f_Law_law_1182 rfl
theorem f_Law_law_1183 : fetch 215 1183 = some (.aload_n 0) := by decide +kernel
theorem e_Law_law_1183 (a1 a2 a3 : AV) (σ : aM) (l0 : Option (Nat × Int)) (r : List AV)  : ev 215 1183 [aQ l0, a1, a2, a3] (r) σ = ev 215 1184 [aQ l0, a1, a2, a3] (aQ l0 :: r) σ := ev_go f_Law_law_1183 rfl
theorem f_Law_law_1184 : fetch 215 1184 = some (.iload_n 3) := by decide +kernel
theorem e_Law_law_1184 (a0 a1 a2 : AV) (σ : aM) (l3 : Int) (r : List AV)  : ev 215 1184 [a0, a1, a2, aI l3] (r) σ = ev 215 1185 [a0, a1, a2, aI l3] (aI l3 :: r) σ := ev_go f_Law_law_1184 rfl
theorem f_Law_law_1185 : fetch 215 1185 = some (.iconst 1) := by decide +kernel
theorem e_Law_law_1185 (a0 a1 a2 a3 : AV) (σ : aM) (r : List AV)  : ev 215 1185 [a0, a1, a2, a3] (r) σ = ev 215 1186 [a0, a1, a2, a3] (aI 1 :: r) σ := ev_go f_Law_law_1185 rfl
theorem f_Law_law_1186 : fetch 215 1186 = some (.iadd) := by decide +kernel
theorem e_Law_law_1186 (a0 a1 a2 a3 : AV) (σ : aM) (x z : Int) (r : List AV)  : ev 215 1186 [a0, a1, a2, a3] (aI z :: aI x :: r) σ = ev 215 1187 [a0, a1, a2, a3] (aI (wr (x + z)) :: r) σ := ev_go f_Law_law_1186 rfl
theorem f_Law_law_1187 : fetch 215 1187 = some (.iaload) := by decide +kernel
theorem e_Law_law_1187 (a0 a1 a2 a3 : AV) (σ : aM) (x : Int) (r : List AV) (h : 0 ≤ x ∧ x < gI σ 34 0 (-1)) : ev 215 1187 [a0, a1, a2, a3] (aI x :: aR 34 0 :: r) σ = ev 215 1188 [a0, a1, a2, a3] (aI (gI σ 34 0 x) :: r) σ := ev_ldS f_Law_law_1187 rfl h
theorem f_Law_law_1188 : fetch 215 1188 = some (.invokevirtual 138) := by decide +kernel
theorem e_Law_law_1188 (a0 a1 a2 a3 : AV) (σ : aM) (s0 : Int) (s1 : Int) (s2 : Int) : ev 215 1188 [a0, a1, a2, a3] [aI s2, aR 25 s1, aI s0] σ = evK 215 1191 [a0, a1, a2, a3] [aI s0] (ev 203 0 [aR 25 s1, aI s2] [] σ) := ev_call f_Law_law_1188 rfl rfl
theorem f_Law_law_1191 : fetch 215 1191 = some (.if_icmp .eq 133) := by decide +kernel
theorem e_Law_law_1191 (a0 a1 a2 a3 : AV) (σ : aM) (x z : Int) (r : List AV) : ev 215 1191 [a0, a1, a2, a3] (aI z :: aI x :: r) σ = if x = z then ev 215 1324 [a0, a1, a2, a3] r σ else ev 215 1194 [a0, a1, a2, a3] r σ := ev_br f_Law_law_1191 rfl bc_eq
theorem f_Law_law_1194 : fetch 215 1194 = some (.iconst 0) := by decide +kernel
theorem e_Law_law_1194 (a0 a1 a2 a3 : AV) (σ : aM) (r : List AV)  : ev 215 1194 [a0, a1, a2, a3] (r) σ = ev 215 1195 [a0, a1, a2, a3] (aI 0 :: r) σ := ev_go f_Law_law_1194 rfl
theorem f_Law_law_1195 : fetch 215 1195 = some (.ireturn) := by decide +kernel
theorem e_Law_law_1195 (a0 a1 a2 a3 : AV) (σ : aM) (x : Int) (h : x = 0 ∨ x = 1) : ev 215 1195 [a0, a1, a2, a3] [aI x] σ = some ((some (aI x)), σ) := ev_rB f_Law_law_1195 rfl h
theorem f_Law_law_1196 : fetch 215 1196 = some (.aload_n 1) := by decide +kernel
theorem e_Law_law_1196 (a0 a2 a3 : AV) (σ : aM) (l1 : Option (Nat × Int)) (r : List AV)  : ev 215 1196 [a0, aQ l1, a2, a3] (r) σ = ev 215 1197 [a0, aQ l1, a2, a3] (aQ l1 :: r) σ := ev_go f_Law_law_1196 rfl
theorem f_Law_law_1197 : fetch 215 1197 = some (.aload_n 0) := by decide +kernel
theorem e_Law_law_1197 (a1 a2 a3 : AV) (σ : aM) (l0 : Option (Nat × Int)) (r : List AV)  : ev 215 1197 [aQ l0, a1, a2, a3] (r) σ = ev 215 1198 [aQ l0, a1, a2, a3] (aQ l0 :: r) σ := ev_go f_Law_law_1197 rfl
theorem f_Law_law_1198 : fetch 215 1198 = some (.iload_n 3) := by decide +kernel
theorem e_Law_law_1198 (a0 a1 a2 : AV) (σ : aM) (l3 : Int) (r : List AV)  : ev 215 1198 [a0, a1, a2, aI l3] (r) σ = ev 215 1199 [a0, a1, a2, aI l3] (aI l3 :: r) σ := ev_go f_Law_law_1198 rfl
theorem f_Law_law_1199 : fetch 215 1199 = some (.iconst 1) := by decide +kernel
theorem e_Law_law_1199 (a0 a1 a2 a3 : AV) (σ : aM) (r : List AV)  : ev 215 1199 [a0, a1, a2, a3] (r) σ = ev 215 1200 [a0, a1, a2, a3] (aI 1 :: r) σ := ev_go f_Law_law_1199 rfl
theorem f_Law_law_1200 : fetch 215 1200 = some (.iadd) := by decide +kernel
theorem e_Law_law_1200 (a0 a1 a2 a3 : AV) (σ : aM) (x z : Int) (r : List AV)  : ev 215 1200 [a0, a1, a2, a3] (aI z :: aI x :: r) σ = ev 215 1201 [a0, a1, a2, a3] (aI (wr (x + z)) :: r) σ := ev_go f_Law_law_1200 rfl
theorem f_Law_law_1201 : fetch 215 1201 = some (.iaload) := by decide +kernel
theorem e_Law_law_1201 (a0 a1 a2 a3 : AV) (σ : aM) (x : Int) (r : List AV) (h : 0 ≤ x ∧ x < gI σ 34 0 (-1)) : ev 215 1201 [a0, a1, a2, a3] (aI x :: aR 34 0 :: r) σ = ev 215 1202 [a0, a1, a2, a3] (aI (gI σ 34 0 x) :: r) σ := ev_ldS f_Law_law_1201 rfl h
theorem f_Law_law_1202 : fetch 215 1202 = some (.aload_n 0) := by decide +kernel
theorem e_Law_law_1202 (a1 a2 a3 : AV) (σ : aM) (l0 : Option (Nat × Int)) (r : List AV)  : ev 215 1202 [aQ l0, a1, a2, a3] (r) σ = ev 215 1203 [aQ l0, a1, a2, a3] (aQ l0 :: r) σ := ev_go f_Law_law_1202 rfl
theorem f_Law_law_1203 : fetch 215 1203 = some (.iload_n 3) := by decide +kernel
theorem e_Law_law_1203 (a0 a1 a2 : AV) (σ : aM) (l3 : Int) (r : List AV)  : ev 215 1203 [a0, a1, a2, aI l3] (r) σ = ev 215 1204 [a0, a1, a2, aI l3] (aI l3 :: r) σ := ev_go f_Law_law_1203 rfl
theorem f_Law_law_1204 : fetch 215 1204 = some (.iconst 2) := by decide +kernel
theorem e_Law_law_1204 (a0 a1 a2 a3 : AV) (σ : aM) (r : List AV)  : ev 215 1204 [a0, a1, a2, a3] (r) σ = ev 215 1205 [a0, a1, a2, a3] (aI 2 :: r) σ := ev_go f_Law_law_1204 rfl
theorem f_Law_law_1205 : fetch 215 1205 = some (.iadd) := by decide +kernel
theorem e_Law_law_1205 (a0 a1 a2 a3 : AV) (σ : aM) (x z : Int) (r : List AV)  : ev 215 1205 [a0, a1, a2, a3] (aI z :: aI x :: r) σ = ev 215 1206 [a0, a1, a2, a3] (aI (wr (x + z)) :: r) σ := ev_go f_Law_law_1205 rfl
theorem f_Law_law_1206 : fetch 215 1206 = some (.iaload) := by decide +kernel
theorem e_Law_law_1206 (a0 a1 a2 a3 : AV) (σ : aM) (x : Int) (r : List AV) (h : 0 ≤ x ∧ x < gI σ 34 0 (-1)) : ev 215 1206 [a0, a1, a2, a3] (aI x :: aR 34 0 :: r) σ = ev 215 1207 [a0, a1, a2, a3] (aI (gI σ 34 0 x) :: r) σ := ev_ldS f_Law_law_1206 rfl h
theorem f_Law_law_1207 : fetch 215 1207 = some (.invokevirtual 139) := by decide +kernel
theorem e_Law_law_1207 (a0 a1 a2 a3 : AV) (σ : aM) (s0 : Int) (s1 : Int) (s2 : Int) : ev 215 1207 [a0, a1, a2, a3] [aI s2, aI s1, aR 0 s0] σ = evK 215 1210 [a0, a1, a2, a3] [] (ev 107 0 [aR 0 s0, aI s1, aI s2, aU, aU] [] σ) := ev_call f_Law_law_1207 rfl rfl
theorem f_Law_law_1210 : fetch 215 1210 = some (.aload_n 2) := by decide +kernel
theorem e_Law_law_1210 (a0 a1 a3 : AV) (σ : aM) (l2 : Option (Nat × Int)) (r : List AV)  : ev 215 1210 [a0, a1, aQ l2, a3] (r) σ = ev 215 1211 [a0, a1, aQ l2, a3] (aQ l2 :: r) σ := ev_go f_Law_law_1210 rfl
theorem f_Law_law_1211 : fetch 215 1211 = some (.aload_n 0) := by decide +kernel
theorem e_Law_law_1211 (a1 a2 a3 : AV) (σ : aM) (l0 : Option (Nat × Int)) (r : List AV)  : ev 215 1211 [aQ l0, a1, a2, a3] (r) σ = ev 215 1212 [aQ l0, a1, a2, a3] (aQ l0 :: r) σ := ev_go f_Law_law_1211 rfl
theorem f_Law_law_1212 : fetch 215 1212 = some (.iload_n 3) := by decide +kernel
theorem e_Law_law_1212 (a0 a1 a2 : AV) (σ : aM) (l3 : Int) (r : List AV)  : ev 215 1212 [a0, a1, a2, aI l3] (r) σ = ev 215 1213 [a0, a1, a2, aI l3] (aI l3 :: r) σ := ev_go f_Law_law_1212 rfl
theorem f_Law_law_1213 : fetch 215 1213 = some (.iconst 1) := by decide +kernel
theorem e_Law_law_1213 (a0 a1 a2 a3 : AV) (σ : aM) (r : List AV)  : ev 215 1213 [a0, a1, a2, a3] (r) σ = ev 215 1214 [a0, a1, a2, a3] (aI 1 :: r) σ := ev_go f_Law_law_1213 rfl
theorem f_Law_law_1214 : fetch 215 1214 = some (.iadd) := by decide +kernel
theorem e_Law_law_1214 (a0 a1 a2 a3 : AV) (σ : aM) (x z : Int) (r : List AV)  : ev 215 1214 [a0, a1, a2, a3] (aI z :: aI x :: r) σ = ev 215 1215 [a0, a1, a2, a3] (aI (wr (x + z)) :: r) σ := ev_go f_Law_law_1214 rfl
theorem f_Law_law_1215 : fetch 215 1215 = some (.iaload) := by decide +kernel
theorem e_Law_law_1215 (a0 a1 a2 a3 : AV) (σ : aM) (x : Int) (r : List AV) (h : 0 ≤ x ∧ x < gI σ 34 0 (-1)) : ev 215 1215 [a0, a1, a2, a3] (aI x :: aR 34 0 :: r) σ = ev 215 1216 [a0, a1, a2, a3] (aI (gI σ 34 0 x) :: r) σ := ev_ldS f_Law_law_1215 rfl h
theorem f_Law_law_1216 : fetch 215 1216 = some (.aload_n 0) := by decide +kernel
theorem e_Law_law_1216 (a1 a2 a3 : AV) (σ : aM) (l0 : Option (Nat × Int)) (r : List AV)  : ev 215 1216 [aQ l0, a1, a2, a3] (r) σ = ev 215 1217 [aQ l0, a1, a2, a3] (aQ l0 :: r) σ := ev_go f_Law_law_1216 rfl
theorem f_Law_law_1217 : fetch 215 1217 = some (.iload_n 3) := by decide +kernel
theorem e_Law_law_1217 (a0 a1 a2 : AV) (σ : aM) (l3 : Int) (r : List AV)  : ev 215 1217 [a0, a1, a2, aI l3] (r) σ = ev 215 1218 [a0, a1, a2, aI l3] (aI l3 :: r) σ := ev_go f_Law_law_1217 rfl
theorem f_Law_law_1218 : fetch 215 1218 = some (.iconst 2) := by decide +kernel
theorem e_Law_law_1218 (a0 a1 a2 a3 : AV) (σ : aM) (r : List AV)  : ev 215 1218 [a0, a1, a2, a3] (r) σ = ev 215 1219 [a0, a1, a2, a3] (aI 2 :: r) σ := ev_go f_Law_law_1218 rfl
theorem f_Law_law_1219 : fetch 215 1219 = some (.iadd) := by decide +kernel
theorem e_Law_law_1219 (a0 a1 a2 a3 : AV) (σ : aM) (x z : Int) (r : List AV)  : ev 215 1219 [a0, a1, a2, a3] (aI z :: aI x :: r) σ = ev 215 1220 [a0, a1, a2, a3] (aI (wr (x + z)) :: r) σ := ev_go f_Law_law_1219 rfl
theorem f_Law_law_1220 : fetch 215 1220 = some (.iaload) := by decide +kernel
theorem e_Law_law_1220 (a0 a1 a2 a3 : AV) (σ : aM) (x : Int) (r : List AV) (h : 0 ≤ x ∧ x < gI σ 34 0 (-1)) : ev 215 1220 [a0, a1, a2, a3] (aI x :: aR 34 0 :: r) σ = ev 215 1221 [a0, a1, a2, a3] (aI (gI σ 34 0 x) :: r) σ := ev_ldS f_Law_law_1220 rfl h
theorem f_Law_law_1221 : fetch 215 1221 = some (.invokevirtual 142) := by decide +kernel
theorem e_Law_law_1221 (a0 a1 a2 a3 : AV) (σ : aM) (s0 : Int) (s1 : Int) (s2 : Int) (s3 : Int) : ev 215 1221 [a0, a1, a2, a3] [aI s3, aI s2, aR 25 s1, aI s0] σ = evK 215 1224 [a0, a1, a2, a3] [aI s0] (ev 204 0 [aR 25 s1, aI s2, aI s3, aU, aU, aU, aU] [] σ) := ev_call f_Law_law_1221 rfl rfl
theorem f_Law_law_1224 : fetch 215 1224 = some (.if_icmp .eq 100) := by decide +kernel
theorem e_Law_law_1224 (a0 a1 a2 a3 : AV) (σ : aM) (x z : Int) (r : List AV) : ev 215 1224 [a0, a1, a2, a3] (aI z :: aI x :: r) σ = if x = z then ev 215 1324 [a0, a1, a2, a3] r σ else ev 215 1227 [a0, a1, a2, a3] r σ := ev_br f_Law_law_1224 rfl bc_eq
theorem f_Law_law_1227 : fetch 215 1227 = some (.iconst 0) := by decide +kernel
theorem e_Law_law_1227 (a0 a1 a2 a3 : AV) (σ : aM) (r : List AV)  : ev 215 1227 [a0, a1, a2, a3] (r) σ = ev 215 1228 [a0, a1, a2, a3] (aI 0 :: r) σ := ev_go f_Law_law_1227 rfl
theorem f_Law_law_1228 : fetch 215 1228 = some (.ireturn) := by decide +kernel
theorem e_Law_law_1228 (a0 a1 a2 a3 : AV) (σ : aM) (x : Int) (h : x = 0 ∨ x = 1) : ev 215 1228 [a0, a1, a2, a3] [aI x] σ = some ((some (aI x)), σ) := ev_rB f_Law_law_1228 rfl h
theorem f_Law_law_1229 : fetch 215 1229 = some (.aload_n 1) := by decide +kernel
theorem e_Law_law_1229 (a0 a2 a3 : AV) (σ : aM) (l1 : Option (Nat × Int)) (r : List AV)  : ev 215 1229 [a0, aQ l1, a2, a3] (r) σ = ev 215 1230 [a0, aQ l1, a2, a3] (aQ l1 :: r) σ := ev_go f_Law_law_1229 rfl
theorem f_Law_law_1230 : fetch 215 1230 = some (.aload_n 0) := by decide +kernel
theorem e_Law_law_1230 (a1 a2 a3 : AV) (σ : aM) (l0 : Option (Nat × Int)) (r : List AV)  : ev 215 1230 [aQ l0, a1, a2, a3] (r) σ = ev 215 1231 [aQ l0, a1, a2, a3] (aQ l0 :: r) σ := ev_go f_Law_law_1230 rfl
theorem f_Law_law_1231 : fetch 215 1231 = some (.iload_n 3) := by decide +kernel
theorem e_Law_law_1231 (a0 a1 a2 : AV) (σ : aM) (l3 : Int) (r : List AV)  : ev 215 1231 [a0, a1, a2, aI l3] (r) σ = ev 215 1232 [a0, a1, a2, aI l3] (aI l3 :: r) σ := ev_go f_Law_law_1231 rfl
theorem f_Law_law_1232 : fetch 215 1232 = some (.iconst 1) := by decide +kernel
theorem e_Law_law_1232 (a0 a1 a2 a3 : AV) (σ : aM) (r : List AV)  : ev 215 1232 [a0, a1, a2, a3] (r) σ = ev 215 1233 [a0, a1, a2, a3] (aI 1 :: r) σ := ev_go f_Law_law_1232 rfl
theorem f_Law_law_1233 : fetch 215 1233 = some (.iadd) := by decide +kernel
theorem e_Law_law_1233 (a0 a1 a2 a3 : AV) (σ : aM) (x z : Int) (r : List AV)  : ev 215 1233 [a0, a1, a2, a3] (aI z :: aI x :: r) σ = ev 215 1234 [a0, a1, a2, a3] (aI (wr (x + z)) :: r) σ := ev_go f_Law_law_1233 rfl
theorem f_Law_law_1234 : fetch 215 1234 = some (.iaload) := by decide +kernel
theorem e_Law_law_1234 (a0 a1 a2 a3 : AV) (σ : aM) (x : Int) (r : List AV) (h : 0 ≤ x ∧ x < gI σ 34 0 (-1)) : ev 215 1234 [a0, a1, a2, a3] (aI x :: aR 34 0 :: r) σ = ev 215 1235 [a0, a1, a2, a3] (aI (gI σ 34 0 x) :: r) σ := ev_ldS f_Law_law_1234 rfl h
theorem f_Law_law_1235 : fetch 215 1235 = some (.invokevirtual 143) := by decide +kernel
theorem e_Law_law_1235 (a0 a1 a2 a3 : AV) (σ : aM) (s0 : Int) (s1 : Int) : ev 215 1235 [a0, a1, a2, a3] [aI s1, aR 0 s0] σ = evK 215 1238 [a0, a1, a2, a3] [] (ev 108 0 [aR 0 s0, aI s1, aU, aU, aU, aU, aU, aU] [] σ) := ev_call f_Law_law_1235 rfl rfl
theorem f_Law_law_1238 : fetch 215 1238 = some (.aload_n 2) := by decide +kernel
theorem e_Law_law_1238 (a0 a1 a3 : AV) (σ : aM) (l2 : Option (Nat × Int)) (r : List AV)  : ev 215 1238 [a0, a1, aQ l2, a3] (r) σ = ev 215 1239 [a0, a1, aQ l2, a3] (aQ l2 :: r) σ := ev_go f_Law_law_1238 rfl
theorem f_Law_law_1239 : fetch 215 1239 = some (.aload_n 0) := by decide +kernel
theorem e_Law_law_1239 (a1 a2 a3 : AV) (σ : aM) (l0 : Option (Nat × Int)) (r : List AV)  : ev 215 1239 [aQ l0, a1, a2, a3] (r) σ = ev 215 1240 [aQ l0, a1, a2, a3] (aQ l0 :: r) σ := ev_go f_Law_law_1239 rfl
theorem f_Law_law_1240 : fetch 215 1240 = some (.iload_n 3) := by decide +kernel
theorem e_Law_law_1240 (a0 a1 a2 : AV) (σ : aM) (l3 : Int) (r : List AV)  : ev 215 1240 [a0, a1, a2, aI l3] (r) σ = ev 215 1241 [a0, a1, a2, aI l3] (aI l3 :: r) σ := ev_go f_Law_law_1240 rfl
theorem f_Law_law_1241 : fetch 215 1241 = some (.iconst 1) := by decide +kernel
theorem e_Law_law_1241 (a0 a1 a2 a3 : AV) (σ : aM) (r : List AV)  : ev 215 1241 [a0, a1, a2, a3] (r) σ = ev 215 1242 [a0, a1, a2, a3] (aI 1 :: r) σ := ev_go f_Law_law_1241 rfl
theorem f_Law_law_1242 : fetch 215 1242 = some (.iadd) := by decide +kernel
theorem e_Law_law_1242 (a0 a1 a2 a3 : AV) (σ : aM) (x z : Int) (r : List AV)  : ev 215 1242 [a0, a1, a2, a3] (aI z :: aI x :: r) σ = ev 215 1243 [a0, a1, a2, a3] (aI (wr (x + z)) :: r) σ := ev_go f_Law_law_1242 rfl
theorem f_Law_law_1243 : fetch 215 1243 = some (.iaload) := by decide +kernel
theorem e_Law_law_1243 (a0 a1 a2 a3 : AV) (σ : aM) (x : Int) (r : List AV) (h : 0 ≤ x ∧ x < gI σ 34 0 (-1)) : ev 215 1243 [a0, a1, a2, a3] (aI x :: aR 34 0 :: r) σ = ev 215 1244 [a0, a1, a2, a3] (aI (gI σ 34 0 x) :: r) σ := ev_ldS f_Law_law_1243 rfl h
theorem f_Law_law_1244 : fetch 215 1244 = some (.invokevirtual 146) := by decide +kernel
theorem e_Law_law_1244 (a0 a1 a2 a3 : AV) (σ : aM) (s0 : Int) (s1 : Int) (s2 : Int) : ev 215 1244 [a0, a1, a2, a3] [aI s2, aR 25 s1, aI s0] σ = evK 215 1247 [a0, a1, a2, a3] [aI s0] (ev 206 0 [aR 25 s1, aI s2, aU, aU, aU, aU, aU, aU] [] σ) := ev_call f_Law_law_1244 rfl rfl
theorem f_Law_law_1247 : fetch 215 1247 = some (.if_icmp .eq 77) := by decide +kernel
theorem e_Law_law_1247 (a0 a1 a2 a3 : AV) (σ : aM) (x z : Int) (r : List AV) : ev 215 1247 [a0, a1, a2, a3] (aI z :: aI x :: r) σ = if x = z then ev 215 1324 [a0, a1, a2, a3] r σ else ev 215 1250 [a0, a1, a2, a3] r σ := ev_br f_Law_law_1247 rfl bc_eq
theorem f_Law_law_1250 : fetch 215 1250 = some (.iconst 0) := by decide +kernel
theorem e_Law_law_1250 (a0 a1 a2 a3 : AV) (σ : aM) (r : List AV)  : ev 215 1250 [a0, a1, a2, a3] (r) σ = ev 215 1251 [a0, a1, a2, a3] (aI 0 :: r) σ := ev_go f_Law_law_1250 rfl
theorem f_Law_law_1251 : fetch 215 1251 = some (.ireturn) := by decide +kernel
theorem e_Law_law_1251 (a0 a1 a2 a3 : AV) (σ : aM) (x : Int) (h : x = 0 ∨ x = 1) : ev 215 1251 [a0, a1, a2, a3] [aI x] σ = some ((some (aI x)), σ) := ev_rB f_Law_law_1251 rfl h
theorem f_Law_law_1252 : fetch 215 1252 = some (.aload_n 1) := by decide +kernel
theorem e_Law_law_1252 (a0 a2 a3 : AV) (σ : aM) (l1 : Option (Nat × Int)) (r : List AV)  : ev 215 1252 [a0, aQ l1, a2, a3] (r) σ = ev 215 1253 [a0, aQ l1, a2, a3] (aQ l1 :: r) σ := ev_go f_Law_law_1252 rfl
theorem f_Law_law_1253 : fetch 215 1253 = some (.aload_n 0) := by decide +kernel
theorem e_Law_law_1253 (a1 a2 a3 : AV) (σ : aM) (l0 : Option (Nat × Int)) (r : List AV)  : ev 215 1253 [aQ l0, a1, a2, a3] (r) σ = ev 215 1254 [aQ l0, a1, a2, a3] (aQ l0 :: r) σ := ev_go f_Law_law_1253 rfl
theorem f_Law_law_1254 : fetch 215 1254 = some (.iload_n 3) := by decide +kernel
theorem e_Law_law_1254 (a0 a1 a2 : AV) (σ : aM) (l3 : Int) (r : List AV)  : ev 215 1254 [a0, a1, a2, aI l3] (r) σ = ev 215 1255 [a0, a1, a2, aI l3] (aI l3 :: r) σ := ev_go f_Law_law_1254 rfl
theorem f_Law_law_1255 : fetch 215 1255 = some (.iconst 1) := by decide +kernel
theorem e_Law_law_1255 (a0 a1 a2 a3 : AV) (σ : aM) (r : List AV)  : ev 215 1255 [a0, a1, a2, a3] (r) σ = ev 215 1256 [a0, a1, a2, a3] (aI 1 :: r) σ := ev_go f_Law_law_1255 rfl
theorem f_Law_law_1256 : fetch 215 1256 = some (.iadd) := by decide +kernel
theorem e_Law_law_1256 (a0 a1 a2 a3 : AV) (σ : aM) (x z : Int) (r : List AV)  : ev 215 1256 [a0, a1, a2, a3] (aI z :: aI x :: r) σ = ev 215 1257 [a0, a1, a2, a3] (aI (wr (x + z)) :: r) σ := ev_go f_Law_law_1256 rfl
theorem f_Law_law_1257 : fetch 215 1257 = some (.iaload) := by decide +kernel
theorem e_Law_law_1257 (a0 a1 a2 a3 : AV) (σ : aM) (x : Int) (r : List AV) (h : 0 ≤ x ∧ x < gI σ 34 0 (-1)) : ev 215 1257 [a0, a1, a2, a3] (aI x :: aR 34 0 :: r) σ = ev 215 1258 [a0, a1, a2, a3] (aI (gI σ 34 0 x) :: r) σ := ev_ldS f_Law_law_1257 rfl h
theorem f_Law_law_1258 : fetch 215 1258 = some (.invokevirtual 147) := by decide +kernel
theorem e_Law_law_1258 (a0 a1 a2 a3 : AV) (σ : aM) (s0 : Int) (s1 : Int) : ev 215 1258 [a0, a1, a2, a3] [aI s1, aR 0 s0] σ = evK 215 1261 [a0, a1, a2, a3] [] (ev 109 0 [aR 0 s0, aI s1, aU] [] σ) := ev_call f_Law_law_1258 rfl rfl
theorem f_Law_law_1261 : fetch 215 1261 = some (.aload_n 2) := by decide +kernel
theorem e_Law_law_1261 (a0 a1 a3 : AV) (σ : aM) (l2 : Option (Nat × Int)) (r : List AV)  : ev 215 1261 [a0, a1, aQ l2, a3] (r) σ = ev 215 1262 [a0, a1, aQ l2, a3] (aQ l2 :: r) σ := ev_go f_Law_law_1261 rfl
theorem f_Law_law_1262 : fetch 215 1262 = some (.aload_n 0) := by decide +kernel
theorem e_Law_law_1262 (a1 a2 a3 : AV) (σ : aM) (l0 : Option (Nat × Int)) (r : List AV)  : ev 215 1262 [aQ l0, a1, a2, a3] (r) σ = ev 215 1263 [aQ l0, a1, a2, a3] (aQ l0 :: r) σ := ev_go f_Law_law_1262 rfl
theorem f_Law_law_1263 : fetch 215 1263 = some (.iload_n 3) := by decide +kernel
theorem e_Law_law_1263 (a0 a1 a2 : AV) (σ : aM) (l3 : Int) (r : List AV)  : ev 215 1263 [a0, a1, a2, aI l3] (r) σ = ev 215 1264 [a0, a1, a2, aI l3] (aI l3 :: r) σ := ev_go f_Law_law_1263 rfl
theorem f_Law_law_1264 : fetch 215 1264 = some (.iconst 1) := by decide +kernel
theorem e_Law_law_1264 (a0 a1 a2 a3 : AV) (σ : aM) (r : List AV)  : ev 215 1264 [a0, a1, a2, a3] (r) σ = ev 215 1265 [a0, a1, a2, a3] (aI 1 :: r) σ := ev_go f_Law_law_1264 rfl
theorem f_Law_law_1265 : fetch 215 1265 = some (.iadd) := by decide +kernel
theorem e_Law_law_1265 (a0 a1 a2 a3 : AV) (σ : aM) (x z : Int) (r : List AV)  : ev 215 1265 [a0, a1, a2, a3] (aI z :: aI x :: r) σ = ev 215 1266 [a0, a1, a2, a3] (aI (wr (x + z)) :: r) σ := ev_go f_Law_law_1265 rfl
theorem f_Law_law_1266 : fetch 215 1266 = some (.iaload) := by decide +kernel
theorem e_Law_law_1266 (a0 a1 a2 a3 : AV) (σ : aM) (x : Int) (r : List AV) (h : 0 ≤ x ∧ x < gI σ 34 0 (-1)) : ev 215 1266 [a0, a1, a2, a3] (aI x :: aR 34 0 :: r) σ = ev 215 1267 [a0, a1, a2, a3] (aI (gI σ 34 0 x) :: r) σ := ev_ldS f_Law_law_1266 rfl h
theorem f_Law_law_1267 : fetch 215 1267 = some (.invokevirtual 150) := by decide +kernel
theorem e_Law_law_1267 (a0 a1 a2 a3 : AV) (σ : aM) (s0 : Int) (s1 : Int) (s2 : Int) : ev 215 1267 [a0, a1, a2, a3] [aI s2, aR 25 s1, aI s0] σ = evK 215 1270 [a0, a1, a2, a3] [aI s0] (ev 207 0 [aR 25 s1, aI s2, aU] [] σ) := ev_call f_Law_law_1267 rfl rfl
theorem f_Law_law_1270 : fetch 215 1270 = some (.if_icmp .eq 54) := by decide +kernel
theorem e_Law_law_1270 (a0 a1 a2 a3 : AV) (σ : aM) (x z : Int) (r : List AV) : ev 215 1270 [a0, a1, a2, a3] (aI z :: aI x :: r) σ = if x = z then ev 215 1324 [a0, a1, a2, a3] r σ else ev 215 1273 [a0, a1, a2, a3] r σ := ev_br f_Law_law_1270 rfl bc_eq
theorem f_Law_law_1273 : fetch 215 1273 = some (.iconst 0) := by decide +kernel
theorem e_Law_law_1273 (a0 a1 a2 a3 : AV) (σ : aM) (r : List AV)  : ev 215 1273 [a0, a1, a2, a3] (r) σ = ev 215 1274 [a0, a1, a2, a3] (aI 0 :: r) σ := ev_go f_Law_law_1273 rfl
theorem f_Law_law_1274 : fetch 215 1274 = some (.ireturn) := by decide +kernel
theorem e_Law_law_1274 (a0 a1 a2 a3 : AV) (σ : aM) (x : Int) (h : x = 0 ∨ x = 1) : ev 215 1274 [a0, a1, a2, a3] [aI x] σ = some ((some (aI x)), σ) := ev_rB f_Law_law_1274 rfl h
theorem f_Law_law_1275 : fetch 215 1275 = some (.aload_n 1) := by decide +kernel
theorem e_Law_law_1275 (a0 a2 a3 : AV) (σ : aM) (l1 : Option (Nat × Int)) (r : List AV)  : ev 215 1275 [a0, aQ l1, a2, a3] (r) σ = ev 215 1276 [a0, aQ l1, a2, a3] (aQ l1 :: r) σ := ev_go f_Law_law_1275 rfl
theorem f_Law_law_1276 : fetch 215 1276 = some (.invokevirtual 151) := by decide +kernel
theorem e_Law_law_1276 (a0 a1 a2 a3 : AV) (σ : aM) (s0 : Int) : ev 215 1276 [a0, a1, a2, a3] [aR 0 s0] σ = evK 215 1279 [a0, a1, a2, a3] [] (ev 110 0 [aR 0 s0] [] σ) := ev_call f_Law_law_1276 rfl rfl
theorem f_Law_law_1279 : fetch 215 1279 = some (.aload_n 2) := by decide +kernel
theorem e_Law_law_1279 (a0 a1 a3 : AV) (σ : aM) (l2 : Option (Nat × Int)) (r : List AV)  : ev 215 1279 [a0, a1, aQ l2, a3] (r) σ = ev 215 1280 [a0, a1, aQ l2, a3] (aQ l2 :: r) σ := ev_go f_Law_law_1279 rfl
theorem f_Law_law_1280 : fetch 215 1280 = some (.invokevirtual 154) := by decide +kernel
theorem e_Law_law_1280 (a0 a1 a2 a3 : AV) (σ : aM) (s0 : Int) (s1 : Int) : ev 215 1280 [a0, a1, a2, a3] [aR 25 s1, aI s0] σ = evK 215 1283 [a0, a1, a2, a3] [aI s0] (ev 208 0 [aR 25 s1, aU] [] σ) := ev_call f_Law_law_1280 rfl rfl
theorem f_Law_law_1283 : fetch 215 1283 = some (.if_icmp .eq 41) := by decide +kernel
theorem e_Law_law_1283 (a0 a1 a2 a3 : AV) (σ : aM) (x z : Int) (r : List AV) : ev 215 1283 [a0, a1, a2, a3] (aI z :: aI x :: r) σ = if x = z then ev 215 1324 [a0, a1, a2, a3] r σ else ev 215 1286 [a0, a1, a2, a3] r σ := ev_br f_Law_law_1283 rfl bc_eq
theorem f_Law_law_1286 : fetch 215 1286 = some (.iconst 0) := by decide +kernel
theorem e_Law_law_1286 (a0 a1 a2 a3 : AV) (σ : aM) (r : List AV)  : ev 215 1286 [a0, a1, a2, a3] (r) σ = ev 215 1287 [a0, a1, a2, a3] (aI 0 :: r) σ := ev_go f_Law_law_1286 rfl
theorem f_Law_law_1287 : fetch 215 1287 = some (.ireturn) := by decide +kernel
theorem e_Law_law_1287 (a0 a1 a2 a3 : AV) (σ : aM) (x : Int) (h : x = 0 ∨ x = 1) : ev 215 1287 [a0, a1, a2, a3] [aI x] σ = some ((some (aI x)), σ) := ev_rB f_Law_law_1287 rfl h
theorem f_Law_law_1288 : fetch 215 1288 = some (.aload_n 1) := by decide +kernel
theorem e_Law_law_1288 (a0 a2 a3 : AV) (σ : aM) (l1 : Option (Nat × Int)) (r : List AV)  : ev 215 1288 [a0, aQ l1, a2, a3] (r) σ = ev 215 1289 [a0, aQ l1, a2, a3] (aQ l1 :: r) σ := ev_go f_Law_law_1288 rfl
theorem f_Law_law_1289 : fetch 215 1289 = some (.invokevirtual 155) := by decide +kernel
theorem e_Law_law_1289 (a0 a1 a2 a3 : AV) (σ : aM) (s0 : Int) : ev 215 1289 [a0, a1, a2, a3] [aR 0 s0] σ = evK 215 1292 [a0, a1, a2, a3] [] (ev 111 0 [aR 0 s0, aU] [] σ) := ev_call f_Law_law_1289 rfl rfl
theorem f_Law_law_1292 : fetch 215 1292 = some (.aload_n 2) := by decide +kernel
theorem e_Law_law_1292 (a0 a1 a3 : AV) (σ : aM) (l2 : Option (Nat × Int)) (r : List AV)  : ev 215 1292 [a0, a1, aQ l2, a3] (r) σ = ev 215 1293 [a0, a1, aQ l2, a3] (aQ l2 :: r) σ := ev_go f_Law_law_1292 rfl
theorem f_Law_law_1293 : fetch 215 1293 = some (.invokevirtual 158) := by decide +kernel
theorem e_Law_law_1293 (a0 a1 a2 a3 : AV) (σ : aM) (s0 : Int) (s1 : Int) : ev 215 1293 [a0, a1, a2, a3] [aR 25 s1, aI s0] σ = evK 215 1296 [a0, a1, a2, a3] [aI s0] (ev 209 0 [aR 25 s1, aU] [] σ) := ev_call f_Law_law_1293 rfl rfl
theorem f_Law_law_1296 : fetch 215 1296 = some (.if_icmp .eq 28) := by decide +kernel
theorem e_Law_law_1296 (a0 a1 a2 a3 : AV) (σ : aM) (x z : Int) (r : List AV) : ev 215 1296 [a0, a1, a2, a3] (aI z :: aI x :: r) σ = if x = z then ev 215 1324 [a0, a1, a2, a3] r σ else ev 215 1299 [a0, a1, a2, a3] r σ := ev_br f_Law_law_1296 rfl bc_eq
theorem f_Law_law_1299 : fetch 215 1299 = some (.iconst 0) := by decide +kernel
theorem e_Law_law_1299 (a0 a1 a2 a3 : AV) (σ : aM) (r : List AV)  : ev 215 1299 [a0, a1, a2, a3] (r) σ = ev 215 1300 [a0, a1, a2, a3] (aI 0 :: r) σ := ev_go f_Law_law_1299 rfl
theorem f_Law_law_1300 : fetch 215 1300 = some (.ireturn) := by decide +kernel
theorem e_Law_law_1300 (a0 a1 a2 a3 : AV) (σ : aM) (x : Int) (h : x = 0 ∨ x = 1) : ev 215 1300 [a0, a1, a2, a3] [aI x] σ = some ((some (aI x)), σ) := ev_rB f_Law_law_1300 rfl h
theorem f_Law_law_1301 : fetch 215 1301 = some (.aload_n 1) := by decide +kernel
theorem e_Law_law_1301 (a0 a2 a3 : AV) (σ : aM) (l1 : Option (Nat × Int)) (r : List AV)  : ev 215 1301 [a0, aQ l1, a2, a3] (r) σ = ev 215 1302 [a0, aQ l1, a2, a3] (aQ l1 :: r) σ := ev_go f_Law_law_1301 rfl
theorem f_Law_law_1302 : fetch 215 1302 = some (.aload_n 0) := by decide +kernel
theorem e_Law_law_1302 (a1 a2 a3 : AV) (σ : aM) (l0 : Option (Nat × Int)) (r : List AV)  : ev 215 1302 [aQ l0, a1, a2, a3] (r) σ = ev 215 1303 [aQ l0, a1, a2, a3] (aQ l0 :: r) σ := ev_go f_Law_law_1302 rfl
theorem f_Law_law_1303 : fetch 215 1303 = some (.iload_n 3) := by decide +kernel
theorem e_Law_law_1303 (a0 a1 a2 : AV) (σ : aM) (l3 : Int) (r : List AV)  : ev 215 1303 [a0, a1, a2, aI l3] (r) σ = ev 215 1304 [a0, a1, a2, aI l3] (aI l3 :: r) σ := ev_go f_Law_law_1303 rfl
theorem f_Law_law_1304 : fetch 215 1304 = some (.iconst 1) := by decide +kernel
theorem e_Law_law_1304 (a0 a1 a2 a3 : AV) (σ : aM) (r : List AV)  : ev 215 1304 [a0, a1, a2, a3] (r) σ = ev 215 1305 [a0, a1, a2, a3] (aI 1 :: r) σ := ev_go f_Law_law_1304 rfl
theorem f_Law_law_1305 : fetch 215 1305 = some (.iadd) := by decide +kernel
theorem e_Law_law_1305 (a0 a1 a2 a3 : AV) (σ : aM) (x z : Int) (r : List AV)  : ev 215 1305 [a0, a1, a2, a3] (aI z :: aI x :: r) σ = ev 215 1306 [a0, a1, a2, a3] (aI (wr (x + z)) :: r) σ := ev_go f_Law_law_1305 rfl
theorem f_Law_law_1306 : fetch 215 1306 = some (.iaload) := by decide +kernel
theorem e_Law_law_1306 (a0 a1 a2 a3 : AV) (σ : aM) (x : Int) (r : List AV) (h : 0 ≤ x ∧ x < gI σ 34 0 (-1)) : ev 215 1306 [a0, a1, a2, a3] (aI x :: aR 34 0 :: r) σ = ev 215 1307 [a0, a1, a2, a3] (aI (gI σ 34 0 x) :: r) σ := ev_ldS f_Law_law_1306 rfl h
theorem f_Law_law_1307 : fetch 215 1307 = some (.invokevirtual 159) := by decide +kernel
theorem e_Law_law_1307 (a0 a1 a2 a3 : AV) (σ : aM) (s0 : Int) (s1 : Int) : ev 215 1307 [a0, a1, a2, a3] [aI s1, aR 0 s0] σ = evK 215 1310 [a0, a1, a2, a3] [] (ev 112 0 [aR 0 s0, aI s1] [] σ) := ev_call f_Law_law_1307 rfl rfl
theorem f_Law_law_1310 : fetch 215 1310 = some (.aload_n 2) := by decide +kernel
theorem e_Law_law_1310 (a0 a1 a3 : AV) (σ : aM) (l2 : Option (Nat × Int)) (r : List AV)  : ev 215 1310 [a0, a1, aQ l2, a3] (r) σ = ev 215 1311 [a0, a1, aQ l2, a3] (aQ l2 :: r) σ := ev_go f_Law_law_1310 rfl
theorem f_Law_law_1311 : fetch 215 1311 = some (.aload_n 0) := by decide +kernel
theorem e_Law_law_1311 (a1 a2 a3 : AV) (σ : aM) (l0 : Option (Nat × Int)) (r : List AV)  : ev 215 1311 [aQ l0, a1, a2, a3] (r) σ = ev 215 1312 [aQ l0, a1, a2, a3] (aQ l0 :: r) σ := ev_go f_Law_law_1311 rfl
theorem f_Law_law_1312 : fetch 215 1312 = some (.iload_n 3) := by decide +kernel
theorem e_Law_law_1312 (a0 a1 a2 : AV) (σ : aM) (l3 : Int) (r : List AV)  : ev 215 1312 [a0, a1, a2, aI l3] (r) σ = ev 215 1313 [a0, a1, a2, aI l3] (aI l3 :: r) σ := ev_go f_Law_law_1312 rfl
theorem f_Law_law_1313 : fetch 215 1313 = some (.iconst 1) := by decide +kernel
theorem e_Law_law_1313 (a0 a1 a2 a3 : AV) (σ : aM) (r : List AV)  : ev 215 1313 [a0, a1, a2, a3] (r) σ = ev 215 1314 [a0, a1, a2, a3] (aI 1 :: r) σ := ev_go f_Law_law_1313 rfl
theorem f_Law_law_1314 : fetch 215 1314 = some (.iadd) := by decide +kernel
theorem e_Law_law_1314 (a0 a1 a2 a3 : AV) (σ : aM) (x z : Int) (r : List AV)  : ev 215 1314 [a0, a1, a2, a3] (aI z :: aI x :: r) σ = ev 215 1315 [a0, a1, a2, a3] (aI (wr (x + z)) :: r) σ := ev_go f_Law_law_1314 rfl
theorem f_Law_law_1315 : fetch 215 1315 = some (.iaload) := by decide +kernel
theorem e_Law_law_1315 (a0 a1 a2 a3 : AV) (σ : aM) (x : Int) (r : List AV) (h : 0 ≤ x ∧ x < gI σ 34 0 (-1)) : ev 215 1315 [a0, a1, a2, a3] (aI x :: aR 34 0 :: r) σ = ev 215 1316 [a0, a1, a2, a3] (aI (gI σ 34 0 x) :: r) σ := ev_ldS f_Law_law_1315 rfl h
theorem f_Law_law_1316 : fetch 215 1316 = some (.invokevirtual 162) := by decide +kernel
theorem e_Law_law_1316 (a0 a1 a2 a3 : AV) (σ : aM) (s0 : Int) (s1 : Int) (s2 : Int) : ev 215 1316 [a0, a1, a2, a3] [aI s2, aR 25 s1, aI s0] σ = evK 215 1319 [a0, a1, a2, a3] [aI s0] (ev 210 0 [aR 25 s1, aI s2] [] σ) := ev_call f_Law_law_1316 rfl rfl
theorem f_Law_law_1319 : fetch 215 1319 = some (.if_icmp .eq 5) := by decide +kernel
theorem e_Law_law_1319 (a0 a1 a2 a3 : AV) (σ : aM) (x z : Int) (r : List AV) : ev 215 1319 [a0, a1, a2, a3] (aI z :: aI x :: r) σ = if x = z then ev 215 1324 [a0, a1, a2, a3] r σ else ev 215 1322 [a0, a1, a2, a3] r σ := ev_br f_Law_law_1319 rfl bc_eq
theorem f_Law_law_1322 : fetch 215 1322 = some (.iconst 0) := by decide +kernel
theorem e_Law_law_1322 (a0 a1 a2 a3 : AV) (σ : aM) (r : List AV)  : ev 215 1322 [a0, a1, a2, a3] (r) σ = ev 215 1323 [a0, a1, a2, a3] (aI 0 :: r) σ := ev_go f_Law_law_1322 rfl
theorem f_Law_law_1323 : fetch 215 1323 = some (.ireturn) := by decide +kernel
theorem e_Law_law_1323 (a0 a1 a2 a3 : AV) (σ : aM) (x : Int) (h : x = 0 ∨ x = 1) : ev 215 1323 [a0, a1, a2, a3] [aI x] σ = some ((some (aI x)), σ) := ev_rB f_Law_law_1323 rfl h
theorem f_Law_law_1324 : fetch 215 1324 = some (.iinc 3 6) := by decide +kernel
theorem e_Law_law_1324 (a0 a1 : AV) (σ : aM) (l3 : Int) (l2 : Option (Nat × Int)) (r : List AV)  : ev 215 1324 [a0, a1, aQ l2, aI l3] (r) σ = ev 215 1327 [a0, a1, aQ l2, aI (wr (l3 + 6))] (r) σ := ev_go f_Law_law_1324 rfl
theorem f_Law_law_1327 : fetch 215 1327 = some (.goto (-1309)) := by decide +kernel
theorem e_Law_law_1327 (a0 a1 a2 a3 : AV) (σ : aM) (r : List AV)  : ev 215 1327 [a0, a1, a2, a3] (r) σ = ev 215 18 [a0, a1, a2, a3] (r) σ := ev_go f_Law_law_1327 rfl
theorem f_Law_law_1330 : fetch 215 1330 = some (.iconst 1) := by decide +kernel
theorem e_Law_law_1330 (a0 a1 a2 a3 : AV) (σ : aM) (r : List AV)  : ev 215 1330 [a0, a1, a2, a3] (r) σ = ev 215 1331 [a0, a1, a2, a3] (aI 1 :: r) σ := ev_go f_Law_law_1330 rfl
theorem f_Law_law_1331 : fetch 215 1331 = some (.ireturn) := by decide +kernel
theorem e_Law_law_1331 (a0 a1 a2 a3 : AV) (σ : aM) (x : Int) (h : x = 0 ∨ x = 1) : ev 215 1331 [a0, a1, a2, a3] [aI x] σ = some ((some (aI x)), σ) := ev_rB f_Law_law_1331 rfl h
