theorem f_Law_law_18 : fetch 213 18 = some (.iload_n 3) := by decide +kernel
theorem e_Law_law_18 (a0 a1 a2 : AV) (σ : aM) (l3 : Int) (r : List AV)  : ev 213 18 [a0, a1, a2, aI l3] (r) σ = ev 213 19 [a0, a1, a2, aI l3] (aI l3 :: r) σ := ev_go f_Law_law_18 rfl
theorem f_Law_law_19 : fetch 213 19 = some (.aload_n 0) := by decide +kernel
theorem e_Law_law_19 (a1 a2 a3 : AV) (σ : aM) (l0 : Option (Nat × Int)) (r : List AV)  : ev 213 19 [aQ l0, a1, a2, a3] (r) σ = ev 213 20 [aQ l0, a1, a2, a3] (aQ l0 :: r) σ := ev_go f_Law_law_19 rfl
theorem f_Law_law_20 : fetch 213 20 = some (.arraylength) := by decide +kernel
theorem e_Law_law_20 (a0 a1 a2 a3 : AV) (σ : aM) (r : List AV) (h : -2147483648 ≤ gI σ 34 0 (-1) ∧ gI σ 34 0 (-1) < 2147483648) : ev 213 20 [a0, a1, a2, a3] (aR 34 0 :: r) σ = ev 213 21 [a0, a1, a2, a3] (aI (gI σ 34 0 (-1)) :: r) σ := ev_cd f_Law_law_20 rfl ⟨rfl, inr32_of h⟩
theorem f_Law_law_21 : fetch 213 21 = some (.bipush 6) := by decide +kernel
theorem e_Law_law_21 (a0 a1 a2 a3 : AV) (σ : aM) (r : List AV)  : ev 213 21 [a0, a1, a2, a3] (r) σ = ev 213 23 [a0, a1, a2, a3] (aI 6 :: r) σ := ev_go f_Law_law_21 rfl
theorem f_Law_law_23 : fetch 213 23 = some (.isub) := by decide +kernel
theorem e_Law_law_23 (a0 a1 a2 a3 : AV) (σ : aM) (x z : Int) (r : List AV)  : ev 213 23 [a0, a1, a2, a3] (aI z :: aI x :: r) σ = ev 213 24 [a0, a1, a2, a3] (aI (wr (x - z)) :: r) σ := ev_go f_Law_law_23 rfl
theorem f_Law_law_24 : fetch 213 24 = some (.if_icmp .gt 1306) := by decide +kernel
theorem e_Law_law_24 (a0 a1 a2 a3 : AV) (σ : aM) (x z : Int) (r : List AV) : ev 213 24 [a0, a1, a2, a3] (aI z :: aI x :: r) σ = if z < x then ev 213 1330 [a0, a1, a2, a3] r σ else ev 213 27 [a0, a1, a2, a3] r σ := ev_br f_Law_law_24 rfl bc_gt
theorem f_Law_law_27 : fetch 213 27 = some (.aload_n 0) := by decide +kernel
theorem e_Law_law_27 (a1 a2 a3 : AV) (σ : aM) (l0 : Option (Nat × Int)) (r : List AV)  : ev 213 27 [aQ l0, a1, a2, a3] (r) σ = ev 213 28 [aQ l0, a1, a2, a3] (aQ l0 :: r) σ := ev_go f_Law_law_27 rfl
theorem f_Law_law_28 : fetch 213 28 = some (.iload_n 3) := by decide +kernel
theorem e_Law_law_28 (a0 a1 a2 : AV) (σ : aM) (l3 : Int) (r : List AV)  : ev 213 28 [a0, a1, a2, aI l3] (r) σ = ev 213 29 [a0, a1, a2, aI l3] (aI l3 :: r) σ := ev_go f_Law_law_28 rfl
theorem f_Law_law_29 : fetch 213 29 = some (.iaload) := by decide +kernel
theorem e_Law_law_29 (a0 a1 a2 a3 : AV) (σ : aM) (x : Int) (r : List AV) (h : 0 ≤ x ∧ x < gI σ 34 0 (-1)) : ev 213 29 [a0, a1, a2, a3] (aI x :: aR 34 0 :: r) σ = ev 213 30 [a0, a1, a2, a3] (aI (gI σ 34 0 x) :: r) σ := ev_ldS f_Law_law_29 rfl h
theorem f_Law_law_30 : fetch 213 30 = some (.bipush 63) := by decide +kernel
theorem e_Law_law_30 (a0 a1 a2 a3 : AV) (σ : aM) (r : List AV)  : ev 213 30 [a0, a1, a2, a3] (r) σ = ev 213 32 [a0, a1, a2, a3] (aI 63 :: r) σ := ev_go f_Law_law_30 rfl
theorem f_Law_law_32 : fetch 213 32 = some (.iand) := by decide +kernel
theorem e_Law_law_32 (a0 a1 a2 a3 : AV) (σ : aM) (x z : Int) (r : List AV)  : ev 213 32 [a0, a1, a2, a3] (aI z :: aI x :: r) σ = ev 213 33 [a0, a1, a2, a3] (aI (ian x z) :: r) σ := ev_go f_Law_law_32 rfl
theorem f_Law_law_33 : fetch 213 33 = some (.tableswitch 1291 0 34 #[155, 198, 271, 334, 368, 401, 424, 457, 520, 583, 636, 689, 732, 755, 768, 791, 834, 857, 870, 883, 906, 939, 972, 1015, 1038, 1071, 1084, 1117, 1140, 1163, 1196, 1219, 1242, 1255, 1268]) := by decide +kernel
theorem e_Law_law_33 (a0 a1 a2 a3 : AV) (σ : aM) (r : List AV) (x : Int) (h : x < 0 ∨ 34 < x) : ev 213 33 [a0, a1, a2, a3] (aI x :: r) σ = ev 213 1324 [a0, a1, a2, a3] r σ := ev_sw (dflt := 1291) (lo := 0) (hi := 34) (offs := #[155, 198, 271, 334, 368, 401, 424, 457, 520, 583, 636, 689, 732, 755, 768, 791, 834, 857, 870, 883, 906, 939, 972, 1015, 1038, 1071, 1084, 1117, 1140, 1163, 1196, 1219, 1242, 1255, 1268]) f_Law_law_33 rfl h rfl
theorem e_Law_law_33_0 (a0 a1 a2 a3 : AV) (σ : aM) (r : List AV) : ev 213 33 [a0, a1, a2, a3] (aI 0 :: r) σ = ev 213 188 [a0, a1, a2, a3] r σ := ev_go f_Law_law_33 rfl
theorem e_Law_law_33_1 (a0 a1 a2 a3 : AV) (σ : aM) (r : List AV) : ev 213 33 [a0, a1, a2, a3] (aI 1 :: r) σ = ev 213 231 [a0, a1, a2, a3] r σ := ev_go f_Law_law_33 rfl
theorem e_Law_law_33_2 (a0 a1 a2 a3 : AV) (σ : aM) (r : List AV) : ev 213 33 [a0, a1, a2, a3] (aI 2 :: r) σ = ev 213 304 [a0, a1, a2, a3] r σ := ev_go f_Law_law_33 rfl
theorem e_Law_law_33_3 (a0 a1 a2 a3 : AV) (σ : aM) (r : List AV) : ev 213 33 [a0, a1, a2, a3] (aI 3 :: r) σ = ev 213 367 [a0, a1, a2, a3] r σ := ev_go f_Law_law_33 rfl
theorem e_Law_law_33_4 (a0 a1 a2 a3 : AV) (σ : aM) (r : List AV) : ev 213 33 [a0, a1, a2, a3] (aI 4 :: r) σ = ev 213 401 [a0, a1, a2, a3] r σ := ev_go f_Law_law_33 rfl
theorem e_Law_law_33_5 (a0 a1 a2 a3 : AV) (σ : aM) (r : List AV) : ev 213 33 [a0, a1, a2, a3] (aI 5 :: r) σ = ev 213 434 [a0, a1, a2, a3] r σ := ev_go f_Law_law_33 rfl
theorem e_Law_law_33_6 (a0 a1 a2 a3 : AV) (σ : aM) (r : List AV) : ev 213 33 [a0, a1, a2, a3] (aI 6 :: r) σ = ev 213 457 [a0, a1, a2, a3] r σ := ev_go f_Law_law_33 rfl
theorem e_Law_law_33_7 (a0 a1 a2 a3 : AV) (σ : aM) (r : List AV) : ev 213 33 [a0, a1, a2, a3] (aI 7 :: r) σ = ev 213 490 [a0, a1, a2, a3] r σ := ev_go f_Law_law_33 rfl
theorem e_Law_law_33_8 (a0 a1 a2 a3 : AV) (σ : aM) (r : List AV) : ev 213 33 [a0, a1, a2, a3] (aI 8 :: r) σ = ev 213 553 [a0, a1, a2, a3] r σ := ev_go f_Law_law_33 rfl
theorem e_Law_law_33_9 (a0 a1 a2 a3 : AV) (σ : aM) (r : List AV) : ev 213 33 [a0, a1, a2, a3] (aI 9 :: r) σ = ev 213 616 [a0, a1, a2, a3] r σ := ev_go f_Law_law_33 rfl
theorem e_Law_law_33_10 (a0 a1 a2 a3 : AV) (σ : aM) (r : List AV) : ev 213 33 [a0, a1, a2, a3] (aI 10 :: r) σ = ev 213 669 [a0, a1, a2, a3] r σ := ev_go f_Law_law_33 rfl
theorem e_Law_law_33_11 (a0 a1 a2 a3 : AV) (σ : aM) (r : List AV) : ev 213 33 [a0, a1, a2, a3] (aI 11 :: r) σ = ev 213 722 [a0, a1, a2, a3] r σ := ev_go f_Law_law_33 rfl
theorem e_Law_law_33_12 (a0 a1 a2 a3 : AV) (σ : aM) (r : List AV) : ev 213 33 [a0, a1, a2, a3] (aI 12 :: r) σ = ev 213 765 [a0, a1, a2, a3] r σ := ev_go f_Law_law_33 rfl
theorem e_Law_law_33_13 (a0 a1 a2 a3 : AV) (σ : aM) (r : List AV) : ev 213 33 [a0, a1, a2, a3] (aI 13 :: r) σ = ev 213 788 [a0, a1, a2, a3] r σ := ev_go f_Law_law_33 rfl
theorem e_Law_law_33_14 (a0 a1 a2 a3 : AV) (σ : aM) (r : List AV) : ev 213 33 [a0, a1, a2, a3] (aI 14 :: r) σ = ev 213 801 [a0, a1, a2, a3] r σ := ev_go f_Law_law_33 rfl
theorem e_Law_law_33_15 (a0 a1 a2 a3 : AV) (σ : aM) (r : List AV) : ev 213 33 [a0, a1, a2, a3] (aI 15 :: r) σ = ev 213 824 [a0, a1, a2, a3] r σ := ev_go f_Law_law_33 rfl
theorem e_Law_law_33_16 (a0 a1 a2 a3 : AV) (σ : aM) (r : List AV) : ev 213 33 [a0, a1, a2, a3] (aI 16 :: r) σ = ev 213 867 [a0, a1, a2, a3] r σ := ev_go f_Law_law_33 rfl
theorem e_Law_law_33_17 (a0 a1 a2 a3 : AV) (σ : aM) (r : List AV) : ev 213 33 [a0, a1, a2, a3] (aI 17 :: r) σ = ev 213 890 [a0, a1, a2, a3] r σ := ev_go f_Law_law_33 rfl
theorem e_Law_law_33_18 (a0 a1 a2 a3 : AV) (σ : aM) (r : List AV) : ev 213 33 [a0, a1, a2, a3] (aI 18 :: r) σ = ev 213 903 [a0, a1, a2, a3] r σ := ev_go f_Law_law_33 rfl
theorem e_Law_law_33_19 (a0 a1 a2 a3 : AV) (σ : aM) (r : List AV) : ev 213 33 [a0, a1, a2, a3] (aI 19 :: r) σ = ev 213 916 [a0, a1, a2, a3] r σ := ev_go f_Law_law_33 rfl
theorem e_Law_law_33_20 (a0 a1 a2 a3 : AV) (σ : aM) (r : List AV) : ev 213 33 [a0, a1, a2, a3] (aI 20 :: r) σ = ev 213 939 [a0, a1, a2, a3] r σ := ev_go f_Law_law_33 rfl
theorem e_Law_law_33_21 (a0 a1 a2 a3 : AV) (σ : aM) (r : List AV) : ev 213 33 [a0, a1, a2, a3] (aI 21 :: r) σ = ev 213 972 [a0, a1, a2, a3] r σ := ev_go f_Law_law_33 rfl
theorem e_Law_law_33_22 (a0 a1 a2 a3 : AV) (σ : aM) (r : List AV) : ev 213 33 [a0, a1, a2, a3] (aI 22 :: r) σ = ev 213 1005 [a0, a1, a2, a3] r σ := ev_go f_Law_law_33 rfl
theorem e_Law_law_33_23 (a0 a1 a2 a3 : AV) (σ : aM) (r : List AV) : ev 213 33 [a0, a1, a2, a3] (aI 23 :: r) σ = ev 213 1048 [a0, a1, a2, a3] r σ := ev_go f_Law_law_33 rfl
theorem e_Law_law_33_24 (a0 a1 a2 a3 : AV) (σ : aM) (r : List AV) : ev 213 33 [a0, a1, a2, a3] (aI 24 :: r) σ = ev 213 1071 [a0, a1, a2, a3] r σ := ev_go f_Law_law_33 rfl
theorem e_Law_law_33_25 (a0 a1 a2 a3 : AV) (σ : aM) (r : List AV) : ev 213 33 [a0, a1, a2, a3] (aI 25 :: r) σ = ev 213 1104 [a0, a1, a2, a3] r σ := ev_go f_Law_law_33 rfl
theorem e_Law_law_33_26 (a0 a1 a2 a3 : AV) (σ : aM) (r : List AV) : ev 213 33 [a0, a1, a2, a3] (aI 26 :: r) σ = ev 213 1117 [a0, a1, a2, a3] r σ := ev_go f_Law_law_33 rfl
theorem e_Law_law_33_27 (a0 a1 a2 a3 : AV) (σ : aM) (r : List AV) : ev 213 33 [a0, a1, a2, a3] (aI 27 :: r) σ = ev 213 1150 [a0, a1, a2, a3] r σ := ev_go f_Law_law_33 rfl
theorem e_Law_law_33_28 (a0 a1 a2 a3 : AV) (σ : aM) (r : List AV) : ev 213 33 [a0, a1, a2, a3] (aI 28 :: r) σ = ev 213 1173 [a0, a1, a2, a3] r σ := ev_go f_Law_law_33 rfl
theorem e_Law_law_33_29 (a0 a1 a2 a3 : AV) (σ : aM) (r : List AV) : ev 213 33 [a0, a1, a2, a3] (aI 29 :: r) σ = ev 213 1196 [a0, a1, a2, a3] r σ := ev_go f_Law_law_33 rfl
theorem e_Law_law_33_30 (a0 a1 a2 a3 : AV) (σ : aM) (r : List AV) : ev 213 33 [a0, a1, a2, a3] (aI 30 :: r) σ = ev 213 1229 [a0, a1, a2, a3] r σ := ev_go f_Law_law_33 rfl
theorem e_Law_law_33_31 (a0 a1 a2 a3 : AV) (σ : aM) (r : List AV) : ev 213 33 [a0, a1, a2, a3] (aI 31 :: r) σ = ev 213 1252 [a0, a1, a2, a3] r σ := ev_go f_Law_law_33 rfl
theorem e_Law_law_33_32 (a0 a1 a2 a3 : AV) (σ : aM) (r : List AV) : ev 213 33 [a0, a1, a2, a3] (aI 32 :: r) σ = ev 213 1275 [a0, a1, a2, a3] r σ := ev_go f_Law_law_33 rfl
theorem e_Law_law_33_33 (a0 a1 a2 a3 : AV) (σ : aM) (r : List AV) : ev 213 33 [a0, a1, a2, a3] (aI 33 :: r) σ = ev 213 1288 [a0, a1, a2, a3] r σ := ev_go f_Law_law_33 rfl
theorem e_Law_law_33_34 (a0 a1 a2 a3 : AV) (σ : aM) (r : List AV) : ev 213 33 [a0, a1, a2, a3] (aI 34 :: r) σ = ev 213 1301 [a0, a1, a2, a3] r σ := ev_go f_Law_law_33 rfl
theorem f_Law_law_188 : fetch 213 188 = some (.aload_n 1) := by decide +kernel
theorem e_Law_law_188 (a0 a2 a3 : AV) (σ : aM) (l1 : Option (Nat × Int)) (r : List AV)  : ev 213 188 [a0, aQ l1, a2, a3] (r) σ = ev 213 189 [a0, aQ l1, a2, a3] (aQ l1 :: r) σ := ev_go f_Law_law_188 rfl
theorem f_Law_law_189 : fetch 213 189 = some (.aload_n 0) := by decide +kernel
theorem e_Law_law_189 (a1 a2 a3 : AV) (σ : aM) (l0 : Option (Nat × Int)) (r : List AV)  : ev 213 189 [aQ l0, a1, a2, a3] (r) σ = ev 213 190 [aQ l0, a1, a2, a3] (aQ l0 :: r) σ := ev_go f_Law_law_189 rfl
theorem f_Law_law_190 : fetch 213 190 = some (.iload_n 3) := by decide +kernel
theorem e_Law_law_190 (a0 a1 a2 : AV) (σ : aM) (l3 : Int) (r : List AV)  : ev 213 190 [a0, a1, a2, aI l3] (r) σ = ev 213 191 [a0, a1, a2, aI l3] (aI l3 :: r) σ := ev_go f_Law_law_190 rfl
theorem f_Law_law_191 : fetch 213 191 = some (.iconst 1) := by decide +kernel
theorem e_Law_law_191 (a0 a1 a2 a3 : AV) (σ : aM) (r : List AV)  : ev 213 191 [a0, a1, a2, a3] (r) σ = ev 213 192 [a0, a1, a2, a3] (aI 1 :: r) σ := ev_go f_Law_law_191 rfl
theorem f_Law_law_192 : fetch 213 192 = some (.iadd) := by decide +kernel
theorem e_Law_law_192 (a0 a1 a2 a3 : AV) (σ : aM) (x z : Int) (r : List AV)  : ev 213 192 [a0, a1, a2, a3] (aI z :: aI x :: r) σ = ev 213 193 [a0, a1, a2, a3] (aI (wr (x + z)) :: r) σ := ev_go f_Law_law_192 rfl
theorem f_Law_law_193 : fetch 213 193 = some (.iaload) := by decide +kernel
theorem e_Law_law_193 (a0 a1 a2 a3 : AV) (σ : aM) (x : Int) (r : List AV) (h : 0 ≤ x ∧ x < gI σ 34 0 (-1)) : ev 213 193 [a0, a1, a2, a3] (aI x :: aR 34 0 :: r) σ = ev 213 194 [a0, a1, a2, a3] (aI (gI σ 34 0 x) :: r) σ := ev_ldS f_Law_law_193 rfl h
theorem f_Law_law_194 : fetch 213 194 = some (.aload_n 0) := by decide +kernel
theorem e_Law_law_194 (a1 a2 a3 : AV) (σ : aM) (l0 : Option (Nat × Int)) (r : List AV)  : ev 213 194 [aQ l0, a1, a2, a3] (r) σ = ev 213 195 [aQ l0, a1, a2, a3] (aQ l0 :: r) σ := ev_go f_Law_law_194 rfl
theorem f_Law_law_195 : fetch 213 195 = some (.iload_n 3) := by decide +kernel
theorem e_Law_law_195 (a0 a1 a2 : AV) (σ : aM) (l3 : Int) (r : List AV)  : ev 213 195 [a0, a1, a2, aI l3] (r) σ = ev 213 196 [a0, a1, a2, aI l3] (aI l3 :: r) σ := ev_go f_Law_law_195 rfl
theorem f_Law_law_196 : fetch 213 196 = some (.iconst 2) := by decide +kernel
theorem e_Law_law_196 (a0 a1 a2 a3 : AV) (σ : aM) (r : List AV)  : ev 213 196 [a0, a1, a2, a3] (r) σ = ev 213 197 [a0, a1, a2, a3] (aI 2 :: r) σ := ev_go f_Law_law_196 rfl
theorem f_Law_law_197 : fetch 213 197 = some (.iadd) := by decide +kernel
theorem e_Law_law_197 (a0 a1 a2 a3 : AV) (σ : aM) (x z : Int) (r : List AV)  : ev 213 197 [a0, a1, a2, a3] (aI z :: aI x :: r) σ = ev 213 198 [a0, a1, a2, a3] (aI (wr (x + z)) :: r) σ := ev_go f_Law_law_197 rfl
theorem f_Law_law_198 : fetch 213 198 = some (.iaload) := by decide +kernel
theorem e_Law_law_198 (a0 a1 a2 a3 : AV) (σ : aM) (x : Int) (r : List AV) (h : 0 ≤ x ∧ x < gI σ 34 0 (-1)) : ev 213 198 [a0, a1, a2, a3] (aI x :: aR 34 0 :: r) σ = ev 213 199 [a0, a1, a2, a3] (aI (gI σ 34 0 x) :: r) σ := ev_ldS f_Law_law_198 rfl h
theorem f_Law_law_199 : fetch 213 199 = some (.aload_n 0) := by decide +kernel
theorem e_Law_law_199 (a1 a2 a3 : AV) (σ : aM) (l0 : Option (Nat × Int)) (r : List AV)  : ev 213 199 [aQ l0, a1, a2, a3] (r) σ = ev 213 200 [aQ l0, a1, a2, a3] (aQ l0 :: r) σ := ev_go f_Law_law_199 rfl
theorem f_Law_law_200 : fetch 213 200 = some (.iload_n 3) := by decide +kernel
theorem e_Law_law_200 (a0 a1 a2 : AV) (σ : aM) (l3 : Int) (r : List AV)  : ev 213 200 [a0, a1, a2, aI l3] (r) σ = ev 213 201 [a0, a1, a2, aI l3] (aI l3 :: r) σ := ev_go f_Law_law_200 rfl
theorem f_Law_law_201 : fetch 213 201 = some (.iconst 3) := by decide +kernel
theorem e_Law_law_201 (a0 a1 a2 a3 : AV) (σ : aM) (r : List AV)  : ev 213 201 [a0, a1, a2, a3] (r) σ = ev 213 202 [a0, a1, a2, a3] (aI 3 :: r) σ := ev_go f_Law_law_201 rfl
theorem f_Law_law_202 : fetch 213 202 = some (.iadd) := by decide +kernel
theorem e_Law_law_202 (a0 a1 a2 a3 : AV) (σ : aM) (x z : Int) (r : List AV)  : ev 213 202 [a0, a1, a2, a3] (aI z :: aI x :: r) σ = ev 213 203 [a0, a1, a2, a3] (aI (wr (x + z)) :: r) σ := ev_go f_Law_law_202 rfl
theorem f_Law_law_203 : fetch 213 203 = some (.iaload) := by decide +kernel
theorem e_Law_law_203 (a0 a1 a2 a3 : AV) (σ : aM) (x : Int) (r : List AV) (h : 0 ≤ x ∧ x < gI σ 34 0 (-1)) : ev 213 203 [a0, a1, a2, a3] (aI x :: aR 34 0 :: r) σ = ev 213 204 [a0, a1, a2, a3] (aI (gI σ 34 0 x) :: r) σ := ev_ldS f_Law_law_203 rfl h
theorem f_Law_law_204 : fetch 213 204 = some (.invokevirtual 13) := by decide +kernel
theorem e_Law_law_204 (a0 a1 a2 a3 : AV) (σ : aM) (s0 : Int) (s1 : Int) (s2 : Int) (s3 : Int) : ev 213 204 [a0, a1, a2, a3] [aI s3, aI s2, aI s1, aR 0 s0] σ = evK 213 207 [a0, a1, a2, a3] [] (ev 78 0 [aR 0 s0, aI s1, aI s2, aI s3] [] σ) := ev_call f_Law_law_204 rfl rfl
theorem f_Law_law_207 : fetch 213 207 = some (.aload_n 2) := by decide +kernel
theorem e_Law_law_207 (a0 a1 a3 : AV) (σ : aM) (l2 : Option (Nat × Int)) (r : List AV)  : ev 213 207 [a0, a1, aQ l2, a3] (r) σ = ev 213 208 [a0, a1, aQ l2, a3] (aQ l2 :: r) σ := ev_go f_Law_law_207 rfl
theorem f_Law_law_208 : fetch 213 208 = some (.aload_n 0) := by decide +kernel
theorem e_Law_law_208 (a1 a2 a3 : AV) (σ : aM) (l0 : Option (Nat × Int)) (r : List AV)  : ev 213 208 [aQ l0, a1, a2, a3] (r) σ = ev 213 209 [aQ l0, a1, a2, a3] (aQ l0 :: r) σ := ev_go f_Law_law_208 rfl
theorem f_Law_law_209 : fetch 213 209 = some (.iload_n 3) := by decide +kernel
theorem e_Law_law_209 (a0 a1 a2 : AV) (σ : aM) (l3 : Int) (r : List AV)  : ev 213 209 [a0, a1, a2, aI l3] (r) σ = ev 213 210 [a0, a1, a2, aI l3] (aI l3 :: r) σ := ev_go f_Law_law_209 rfl
theorem f_Law_law_210 : fetch 213 210 = some (.iconst 1) := by decide +kernel
theorem e_Law_law_210 (a0 a1 a2 a3 : AV) (σ : aM) (r : List AV)  : ev 213 210 [a0, a1, a2, a3] (r) σ = ev 213 211 [a0, a1, a2, a3] (aI 1 :: r) σ := ev_go f_Law_law_210 rfl
theorem f_Law_law_211 : fetch 213 211 = some (.iadd) := by decide +kernel
theorem e_Law_law_211 (a0 a1 a2 a3 : AV) (σ : aM) (x z : Int) (r : List AV)  : ev 213 211 [a0, a1, a2, a3] (aI z :: aI x :: r) σ = ev 213 212 [a0, a1, a2, a3] (aI (wr (x + z)) :: r) σ := ev_go f_Law_law_211 rfl
theorem f_Law_law_212 : fetch 213 212 = some (.iaload) := by decide +kernel
theorem e_Law_law_212 (a0 a1 a2 a3 : AV) (σ : aM) (x : Int) (r : List AV) (h : 0 ≤ x ∧ x < gI σ 34 0 (-1)) : ev 213 212 [a0, a1, a2, a3] (aI x :: aR 34 0 :: r) σ = ev 213 213 [a0, a1, a2, a3] (aI (gI σ 34 0 x) :: r) σ := ev_ldS f_Law_law_212 rfl h
theorem f_Law_law_213 : fetch 213 213 = some (.aload_n 0) := by decide +kernel
theorem e_Law_law_213 (a1 a2 a3 : AV) (σ : aM) (l0 : Option (Nat × Int)) (r : List AV)  : ev 213 213 [aQ l0, a1, a2, a3] (r) σ = ev 213 214 [aQ l0, a1, a2, a3] (aQ l0 :: r) σ := ev_go f_Law_law_213 rfl
theorem f_Law_law_214 : fetch 213 214 = some (.iload_n 3) := by decide +kernel
theorem e_Law_law_214 (a0 a1 a2 : AV) (σ : aM) (l3 : Int) (r : List AV)  : ev 213 214 [a0, a1, a2, aI l3] (r) σ = ev 213 215 [a0, a1, a2, aI l3] (aI l3 :: r) σ := ev_go f_Law_law_214 rfl
theorem f_Law_law_215 : fetch 213 215 = some (.iconst 2) := by decide +kernel
theorem e_Law_law_215 (a0 a1 a2 a3 : AV) (σ : aM) (r : List AV)  : ev 213 215 [a0, a1, a2, a3] (r) σ = ev 213 216 [a0, a1, a2, a3] (aI 2 :: r) σ := ev_go f_Law_law_215 rfl
theorem f_Law_law_216 : fetch 213 216 = some (.iadd) := by decide +kernel
theorem e_Law_law_216 (a0 a1 a2 a3 : AV) (σ : aM) (x z : Int) (r : List AV)  : ev 213 216 [a0, a1, a2, a3] (aI z :: aI x :: r) σ = ev 213 217 [a0, a1, a2, a3] (aI (wr (x + z)) :: r) σ := ev_go f_Law_law_216 rfl
theorem f_Law_law_217 : fetch 213 217 = some (.iaload) := by decide +kernel
theorem e_Law_law_217 (a0 a1 a2 a3 : AV) (σ : aM) (x : Int) (r : List AV) (h : 0 ≤ x ∧ x < gI σ 34 0 (-1)) : ev 213 217 [a0, a1, a2, a3] (aI x :: aR 34 0 :: r) σ = ev 213 218 [a0, a1, a2, a3] (aI (gI σ 34 0 x) :: r) σ := ev_ldS f_Law_law_217 rfl h
theorem f_Law_law_218 : fetch 213 218 = some (.aload_n 0) := by decide +kernel
theorem e_Law_law_218 (a1 a2 a3 : AV) (σ : aM) (l0 : Option (Nat × Int)) (r : List AV)  : ev 213 218 [aQ l0, a1, a2, a3] (r) σ = ev 213 219 [aQ l0, a1, a2, a3] (aQ l0 :: r) σ := ev_go f_Law_law_218 rfl
theorem f_Law_law_219 : fetch 213 219 = some (.iload_n 3) := by decide +kernel
theorem e_Law_law_219 (a0 a1 a2 : AV) (σ : aM) (l3 : Int) (r : List AV)  : ev 213 219 [a0, a1, a2, aI l3] (r) σ = ev 213 220 [a0, a1, a2, aI l3] (aI l3 :: r) σ := ev_go f_Law_law_219 rfl
theorem f_Law_law_220 : fetch 213 220 = some (.iconst 3) := by decide +kernel
theorem e_Law_law_220 (a0 a1 a2 a3 : AV) (σ : aM) (r : List AV)  : ev 213 220 [a0, a1, a2, a3] (r) σ = ev 213 221 [a0, a1, a2, a3] (aI 3 :: r) σ := ev_go f_Law_law_220 rfl
theorem f_Law_law_221 : fetch 213 221 = some (.iadd) := by decide +kernel
theorem e_Law_law_221 (a0 a1 a2 a3 : AV) (σ : aM) (x z : Int) (r : List AV)  : ev 213 221 [a0, a1, a2, a3] (aI z :: aI x :: r) σ = ev 213 222 [a0, a1, a2, a3] (aI (wr (x + z)) :: r) σ := ev_go f_Law_law_221 rfl
theorem f_Law_law_222 : fetch 213 222 = some (.iaload) := by decide +kernel
theorem e_Law_law_222 (a0 a1 a2 a3 : AV) (σ : aM) (x : Int) (r : List AV) (h : 0 ≤ x ∧ x < gI σ 34 0 (-1)) : ev 213 222 [a0, a1, a2, a3] (aI x :: aR 34 0 :: r) σ = ev 213 223 [a0, a1, a2, a3] (aI (gI σ 34 0 x) :: r) σ := ev_ldS f_Law_law_222 rfl h
theorem f_Law_law_223 : fetch 213 223 = some (.invokevirtual 17) := by decide +kernel
theorem e_Law_law_223 (a0 a1 a2 a3 : AV) (σ : aM) (s0 : Int) (s1 : Int) (s2 : Int) (s3 : Int) (s4 : Int) : ev 213 223 [a0, a1, a2, a3] [aI s4, aI s3, aI s2, aR 25 s1, aI s0] σ = evK 213 226 [a0, a1, a2, a3] [aI s0] (ev 131 0 [aR 25 s1, aI s2, aI s3, aI s4, aU] [] σ) := ev_call f_Law_law_223 rfl rfl
theorem f_Law_law_226 : fetch 213 226 = some (.if_icmp .eq 1098) := by decide +kernel
theorem e_Law_law_226 (a0 a1 a2 a3 : AV) (σ : aM) (x z : Int) (r : List AV) : ev 213 226 [a0, a1, a2, a3] (aI z :: aI x :: r) σ = if x = z then ev 213 1324 [a0, a1, a2, a3] r σ else ev 213 229 [a0, a1, a2, a3] r σ := ev_br f_Law_law_226 rfl bc_eq
theorem f_Law_law_229 : fetch 213 229 = some (.iconst 0) := by decide +kernel
theorem e_Law_law_229 (a0 a1 a2 a3 : AV) (σ : aM) (r : List AV)  : ev 213 229 [a0, a1, a2, a3] (r) σ = ev 213 230 [a0, a1, a2, a3] (aI 0 :: r) σ := ev_go f_Law_law_229 rfl
theorem f_Law_law_230 : fetch 213 230 = some (.ireturn) := by decide +kernel
theorem e_Law_law_230 (a0 a1 a2 a3 : AV) (σ : aM) (x : Int) (h : x = 0 ∨ x = 1) : ev 213 230 [a0, a1, a2, a3] [aI x] σ = some ((some (aI x)), σ) := ev_rB f_Law_law_230 rfl h
theorem f_Law_law_231 : fetch 213 231 = some (.aload_n 1) := by decide +kernel
theorem e_Law_law_231 (a0 a2 a3 : AV) (σ : aM) (l1 : Option (Nat × Int)) (r : List AV)  : ev 213 231 [a0, aQ l1, a2, a3] (r) σ = ev 213 232 [a0, aQ l1, a2, a3] (aQ l1 :: r) σ := ev_go f_Law_law_231 rfl
theorem f_Law_law_232 : fetch 213 232 = some (.aload_n 0) := by decide +kernel
theorem e_Law_law_232 (a1 a2 a3 : AV) (σ : aM) (l0 : Option (Nat × Int)) (r : List AV)  : ev 213 232 [aQ l0, a1, a2, a3] (r) σ = ev 213 233 [aQ l0, a1, a2, a3] (aQ l0 :: r) σ := ev_go f_Law_law_232 rfl
theorem f_Law_law_233 : fetch 213 233 = some (.iload_n 3) := by decide +kernel
theorem e_Law_law_233 (a0 a1 a2 : AV) (σ : aM) (l3 : Int) (r : List AV)  : ev 213 233 [a0, a1, a2, aI l3] (r) σ = ev 213 234 [a0, a1, a2, aI l3] (aI l3 :: r) σ := ev_go f_Law_law_233 rfl
theorem f_Law_law_234 : fetch 213 234 = some (.iconst 1) := by decide +kernel
theorem e_Law_law_234 (a0 a1 a2 a3 : AV) (σ : aM) (r : List AV)  : ev 213 234 [a0, a1, a2, a3] (r) σ = ev 213 235 [a0, a1, a2, a3] (aI 1 :: r) σ := ev_go f_Law_law_234 rfl
theorem f_Law_law_235 : fetch 213 235 = some (.iadd) := by decide +kernel
theorem e_Law_law_235 (a0 a1 a2 a3 : AV) (σ : aM) (x z : Int) (r : List AV)  : ev 213 235 [a0, a1, a2, a3] (aI z :: aI x :: r) σ = ev 213 236 [a0, a1, a2, a3] (aI (wr (x + z)) :: r) σ := ev_go f_Law_law_235 rfl
theorem f_Law_law_236 : fetch 213 236 = some (.iaload) := by decide +kernel
theorem e_Law_law_236 (a0 a1 a2 a3 : AV) (σ : aM) (x : Int) (r : List AV) (h : 0 ≤ x ∧ x < gI σ 34 0 (-1)) : ev 213 236 [a0, a1, a2, a3] (aI x :: aR 34 0 :: r) σ = ev 213 237 [a0, a1, a2, a3] (aI (gI σ 34 0 x) :: r) σ := ev_ldS f_Law_law_236 rfl h
theorem f_Law_law_237 : fetch 213 237 = some (.aload_n 0) := by decide +kernel
theorem e_Law_law_237 (a1 a2 a3 : AV) (σ : aM) (l0 : Option (Nat × Int)) (r : List AV)  : ev 213 237 [aQ l0, a1, a2, a3] (r) σ = ev 213 238 [aQ l0, a1, a2, a3] (aQ l0 :: r) σ := ev_go f_Law_law_237 rfl
theorem f_Law_law_238 : fetch 213 238 = some (.iload_n 3) := by decide +kernel
theorem e_Law_law_238 (a0 a1 a2 : AV) (σ : aM) (l3 : Int) (r : List AV)  : ev 213 238 [a0, a1, a2, aI l3] (r) σ = ev 213 239 [a0, a1, a2, aI l3] (aI l3 :: r) σ := ev_go f_Law_law_238 rfl
theorem f_Law_law_239 : fetch 213 239 = some (.iconst 2) := by decide +kernel
theorem e_Law_law_239 (a0 a1 a2 a3 : AV) (σ : aM) (r : List AV)  : ev 213 239 [a0, a1, a2, a3] (r) σ = ev 213 240 [a0, a1, a2, a3] (aI 2 :: r) σ := ev_go f_Law_law_239 rfl
theorem f_Law_law_240 : fetch 213 240 = some (.iadd) := by decide +kernel
theorem e_Law_law_240 (a0 a1 a2 a3 : AV) (σ : aM) (x z : Int) (r : List AV)  : ev 213 240 [a0, a1, a2, a3] (aI z :: aI x :: r) σ = ev 213 241 [a0, a1, a2, a3] (aI (wr (x + z)) :: r) σ := ev_go f_Law_law_240 rfl
theorem f_Law_law_241 : fetch 213 241 = some (.iaload) := by decide +kernel
theorem e_Law_law_241 (a0 a1 a2 a3 : AV) (σ : aM) (x : Int) (r : List AV) (h : 0 ≤ x ∧ x < gI σ 34 0 (-1)) : ev 213 241 [a0, a1, a2, a3] (aI x :: aR 34 0 :: r) σ = ev 213 242 [a0, a1, a2, a3] (aI (gI σ 34 0 x) :: r) σ := ev_ldS f_Law_law_241 rfl h
theorem f_Law_law_242 : fetch 213 242 = some (.aload_n 0) := by decide +kernel
theorem e_Law_law_242 (a1 a2 a3 : AV) (σ : aM) (l0 : Option (Nat × Int)) (r : List AV)  : ev 213 242 [aQ l0, a1, a2, a3] (r) σ = ev 213 243 [aQ l0, a1, a2, a3] (aQ l0 :: r) σ := ev_go f_Law_law_242 rfl
theorem f_Law_law_243 : fetch 213 243 = some (.iload_n 3) := by decide +kernel
theorem e_Law_law_243 (a0 a1 a2 : AV) (σ : aM) (l3 : Int) (r : List AV)  : ev 213 243 [a0, a1, a2, aI l3] (r) σ = ev 213 244 [a0, a1, a2, aI l3] (aI l3 :: r) σ := ev_go f_Law_law_243 rfl
theorem f_Law_law_244 : fetch 213 244 = some (.iconst 3) := by decide +kernel
theorem e_Law_law_244 (a0 a1 a2 a3 : AV) (σ : aM) (r : List AV)  : ev 213 244 [a0, a1, a2, a3] (r) σ = ev 213 245 [a0, a1, a2, a3] (aI 3 :: r) σ := ev_go f_Law_law_244 rfl
theorem f_Law_law_245 : fetch 213 245 = some (.iadd) := by decide +kernel
theorem e_Law_law_245 (a0 a1 a2 a3 : AV) (σ : aM) (x z : Int) (r : List AV)  : ev 213 245 [a0, a1, a2, a3] (aI z :: aI x :: r) σ = ev 213 246 [a0, a1, a2, a3] (aI (wr (x + z)) :: r) σ := ev_go f_Law_law_245 rfl
theorem f_Law_law_246 : fetch 213 246 = some (.iaload) := by decide +kernel
theorem e_Law_law_246 (a0 a1 a2 a3 : AV) (σ : aM) (x : Int) (r : List AV) (h : 0 ≤ x ∧ x < gI σ 34 0 (-1)) : ev 213 246 [a0, a1, a2, a3] (aI x :: aR 34 0 :: r) σ = ev 213 247 [a0, a1, a2, a3] (aI (gI σ 34 0 x) :: r) σ := ev_ldS f_Law_law_246 rfl h
theorem f_Law_law_247 : fetch 213 247 = some (.i2l) := by decide +kernel
theorem e_Law_law_247 (a0 a1 a2 a3 : AV) (σ : aM) (x : Int) (r : List AV)  : ev 213 247 [a0, a1, a2, a3] (aI x :: r) σ = ev 213 248 [a0, a1, a2, a3] (aJ (toj x) :: r) σ := ev_go f_Law_law_247 rfl
theorem f_Law_law_248 : fetch 213 248 = some (.bipush 32) := by decide +kernel
theorem e_Law_law_248 (a0 a1 a2 a3 : AV) (σ : aM) (r : List AV)  : ev 213 248 [a0, a1, a2, a3] (r) σ = ev 213 250 [a0, a1, a2, a3] (aI 32 :: r) σ := ev_go f_Law_law_248 rfl
theorem f_Law_law_250 : fetch 213 250 = some (.lshl) := by decide +kernel
theorem e_Law_law_250 (a0 a1 a2 a3 : AV) (σ : aM) (x : Int64) (z : Int) (r : List AV)  : ev 213 250 [a0, a1, a2, a3] (aI z :: aJ x :: r) σ = ev 213 251 [a0, a1, a2, a3] (aJ (x <<< (toj z &&& 63)) :: r) σ := ev_go f_Law_law_250 rfl
theorem f_Law_law_251 : fetch 213 251 = some (.aload_n 0) := by decide +kernel
theorem e_Law_law_251 (a1 a2 a3 : AV) (σ : aM) (l0 : Option (Nat × Int)) (r : List AV)  : ev 213 251 [aQ l0, a1, a2, a3] (r) σ = ev 213 252 [aQ l0, a1, a2, a3] (aQ l0 :: r) σ := ev_go f_Law_law_251 rfl
theorem f_Law_law_252 : fetch 213 252 = some (.iload_n 3) := by decide +kernel
theorem e_Law_law_252 (a0 a1 a2 : AV) (σ : aM) (l3 : Int) (r : List AV)  : ev 213 252 [a0, a1, a2, aI l3] (r) σ = ev 213 253 [a0, a1, a2, aI l3] (aI l3 :: r) σ := ev_go f_Law_law_252 rfl
theorem f_Law_law_253 : fetch 213 253 = some (.iconst 4) := by decide +kernel
theorem e_Law_law_253 (a0 a1 a2 a3 : AV) (σ : aM) (r : List AV)  : ev 213 253 [a0, a1, a2, a3] (r) σ = ev 213 254 [a0, a1, a2, a3] (aI 4 :: r) σ := ev_go f_Law_law_253 rfl
theorem f_Law_law_254 : fetch 213 254 = some (.iadd) := by decide +kernel
theorem e_Law_law_254 (a0 a1 a2 a3 : AV) (σ : aM) (x z : Int) (r : List AV)  : ev 213 254 [a0, a1, a2, a3] (aI z :: aI x :: r) σ = ev 213 255 [a0, a1, a2, a3] (aI (wr (x + z)) :: r) σ := ev_go f_Law_law_254 rfl
theorem f_Law_law_255 : fetch 213 255 = some (.iaload) := by decide +kernel
theorem e_Law_law_255 (a0 a1 a2 a3 : AV) (σ : aM) (x : Int) (r : List AV) (h : 0 ≤ x ∧ x < gI σ 34 0 (-1)) : ev 213 255 [a0, a1, a2, a3] (aI x :: aR 34 0 :: r) σ = ev 213 256 [a0, a1, a2, a3] (aI (gI σ 34 0 x) :: r) σ := ev_ldS f_Law_law_255 rfl h
theorem f_Law_law_256 : fetch 213 256 = some (.i2l) := by decide +kernel
theorem e_Law_law_256 (a0 a1 a2 a3 : AV) (σ : aM) (x : Int) (r : List AV)  : ev 213 256 [a0, a1, a2, a3] (aI x :: r) σ = ev 213 257 [a0, a1, a2, a3] (aJ (toj x) :: r) σ := ev_go f_Law_law_256 rfl
theorem f_Law_law_257 : fetch 213 257 = some (.ldc2_w 18) := by decide +kernel
theorem e_Law_law_257 (a0 a1 a2 a3 : AV) (σ : aM) (r : List AV)  : ev 213 257 [a0, a1, a2, a3] (r) σ = ev 213 260 [a0, a1, a2, a3] (aJ 4294967295 :: r) σ := ev_go f_Law_law_257 rfl
theorem f_Law_law_260 : fetch 213 260 = some (.land) := by decide +kernel
theorem e_Law_law_260 (a0 a1 a2 a3 : AV) (σ : aM) (x z : Int64) (r : List AV)  : ev 213 260 [a0, a1, a2, a3] (aJ z :: aJ x :: r) σ = ev 213 261 [a0, a1, a2, a3] (aJ (x &&& z) :: r) σ := ev_go f_Law_law_260 rfl
theorem f_Law_law_261 : fetch 213 261 = some (.lor) := by decide +kernel
theorem e_Law_law_261 (a0 a1 a2 a3 : AV) (σ : aM) (x z : Int64) (r : List AV)  : ev 213 261 [a0, a1, a2, a3] (aJ z :: aJ x :: r) σ = ev 213 262 [a0, a1, a2, a3] (aJ (x ||| z) :: r) σ := ev_go f_Law_law_261 rfl
theorem f_Law_law_262 : fetch 213 262 = some (.invokevirtual 20) := by decide +kernel
theorem e_Law_law_262 (a0 a1 a2 a3 : AV) (σ : aM) (s0 : Int) (s1 : Int) (s2 : Int) (s3 : Int64) : ev 213 262 [a0, a1, a2, a3] [aJ s3, aI s2, aI s1, aR 0 s0] σ = evK 213 265 [a0, a1, a2, a3] [] (ev 79 0 [aR 0 s0, aI s1, aI s2, aJ s3, aU, aU] [] σ) := ev_call f_Law_law_262 rfl rfl
theorem f_Law_law_265 : fetch 213 265 = some (.aload_n 2) := by decide +kernel
theorem e_Law_law_265 (a0 a1 a3 : AV) (σ : aM) (l2 : Option (Nat × Int)) (r : List AV)  : ev 213 265 [a0, a1, aQ l2, a3] (r) σ = ev 213 266 [a0, a1, aQ l2, a3] (aQ l2 :: r) σ := ev_go f_Law_law_265 rfl
theorem f_Law_law_266 : fetch 213 266 = some (.aload_n 0) := by decide +kernel
theorem e_Law_law_266 (a1 a2 a3 : AV) (σ : aM) (l0 : Option (Nat × Int)) (r : List AV)  : ev 213 266 [aQ l0, a1, a2, a3] (r) σ = ev 213 267 [aQ l0, a1, a2, a3] (aQ l0 :: r) σ := ev_go f_Law_law_266 rfl
theorem f_Law_law_267 : fetch 213 267 = some (.iload_n 3) := by decide +kernel
theorem e_Law_law_267 (a0 a1 a2 : AV) (σ : aM) (l3 : Int) (r : List AV)  : ev 213 267 [a0, a1, a2, aI l3] (r) σ = ev 213 268 [a0, a1, a2, aI l3] (aI l3 :: r) σ := ev_go f_Law_law_267 rfl
theorem f_Law_law_268 : fetch 213 268 = some (.iconst 1) := by decide +kernel
theorem e_Law_law_268 (a0 a1 a2 a3 : AV) (σ : aM) (r : List AV)  : ev 213 268 [a0, a1, a2, a3] (r) σ = ev 213 269 [a0, a1, a2, a3] (aI 1 :: r) σ := ev_go f_Law_law_268 rfl
theorem f_Law_law_269 : fetch 213 269 = some (.iadd) := by decide +kernel
theorem e_Law_law_269 (a0 a1 a2 a3 : AV) (σ : aM) (x z : Int) (r : List AV)  : ev 213 269 [a0, a1, a2, a3] (aI z :: aI x :: r) σ = ev 213 270 [a0, a1, a2, a3] (aI (wr (x + z)) :: r) σ := ev_go f_Law_law_269 rfl
theorem f_Law_law_270 : fetch 213 270 = some (.iaload) := by decide +kernel
theorem e_Law_law_270 (a0 a1 a2 a3 : AV) (σ : aM) (x : Int) (r : List AV) (h : 0 ≤ x ∧ x < gI σ 34 0 (-1)) : ev 213 270 [a0, a1, a2, a3] (aI x :: aR 34 0 :: r) σ = ev 213 271 [a0, a1, a2, a3] (aI (gI σ 34 0 x) :: r) σ := ev_ldS f_Law_law_270 rfl h
theorem f_Law_law_271 : fetch 213 271 = some (.aload_n 0) := by decide +kernel
theorem e_Law_law_271 (a1 a2 a3 : AV) (σ : aM) (l0 : Option (Nat × Int)) (r : List AV)  : ev 213 271 [aQ l0, a1, a2, a3] (r) σ = ev 213 272 [aQ l0, a1, a2, a3] (aQ l0 :: r) σ := ev_go f_Law_law_271 rfl
theorem f_Law_law_272 : fetch 213 272 = some (.iload_n 3) := by decide +kernel
theorem e_Law_law_272 (a0 a1 a2 : AV) (σ : aM) (l3 : Int) (r : List AV)  : ev 213 272 [a0, a1, a2, aI l3] (r) σ = ev 213 273 [a0, a1, a2, aI l3] (aI l3 :: r) σ := ev_go f_Law_law_272 rfl
theorem f_Law_law_273 : fetch 213 273 = some (.iconst 2) := by decide +kernel
theorem e_Law_law_273 (a0 a1 a2 a3 : AV) (σ : aM) (r : List AV)  : ev 213 273 [a0, a1, a2, a3] (r) σ = ev 213 274 [a0, a1, a2, a3] (aI 2 :: r) σ := ev_go f_Law_law_273 rfl
theorem f_Law_law_274 : fetch 213 274 = some (.iadd) := by decide +kernel
theorem e_Law_law_274 (a0 a1 a2 a3 : AV) (σ : aM) (x z : Int) (r : List AV)  : ev 213 274 [a0, a1, a2, a3] (aI z :: aI x :: r) σ = ev 213 275 [a0, a1, a2, a3] (aI (wr (x + z)) :: r) σ := ev_go f_Law_law_274 rfl
theorem f_Law_law_275 : fetch 213 275 = some (.iaload) := by decide +kernel
theorem e_Law_law_275 (a0 a1 a2 a3 : AV) (σ : aM) (x : Int) (r : List AV) (h : 0 ≤ x ∧ x < gI σ 34 0 (-1)) : ev 213 275 [a0, a1, a2, a3] (aI x :: aR 34 0 :: r) σ = ev 213 276 [a0, a1, a2, a3] (aI (gI σ 34 0 x) :: r) σ := ev_ldS f_Law_law_275 rfl h
theorem f_Law_law_276 : fetch 213 276 = some (.aload_n 0) := by decide +kernel
theorem e_Law_law_276 (a1 a2 a3 : AV) (σ : aM) (l0 : Option (Nat × Int)) (r : List AV)  : ev 213 276 [aQ l0, a1, a2, a3] (r) σ = ev 213 277 [aQ l0, a1, a2, a3] (aQ l0 :: r) σ := ev_go f_Law_law_276 rfl
theorem f_Law_law_277 : fetch 213 277 = some (.iload_n 3) := by decide +kernel
theorem e_Law_law_277 (a0 a1 a2 : AV) (σ : aM) (l3 : Int) (r : List AV)  : ev 213 277 [a0, a1, a2, aI l3] (r) σ = ev 213 278 [a0, a1, a2, aI l3] (aI l3 :: r) σ := ev_go f_Law_law_277 rfl
theorem f_Law_law_278 : fetch 213 278 = some (.iconst 3) := by decide +kernel
theorem e_Law_law_278 (a0 a1 a2 a3 : AV) (σ : aM) (r : List AV)  : ev 213 278 [a0, a1, a2, a3] (r) σ = ev 213 279 [a0, a1, a2, a3] (aI 3 :: r) σ := ev_go f_Law_law_278 rfl
theorem f_Law_law_279 : fetch 213 279 = some (.iadd) := by decide +kernel
theorem e_Law_law_279 (a0 a1 a2 a3 : AV) (σ : aM) (x z : Int) (r : List AV)  : ev 213 279 [a0, a1, a2, a3] (aI z :: aI x :: r) σ = ev 213 280 [a0, a1, a2, a3] (aI (wr (x + z)) :: r) σ := ev_go f_Law_law_279 rfl
theorem f_Law_law_280 : fetch 213 280 = some (.iaload) := by decide +kernel
theorem e_Law_law_280 (a0 a1 a2 a3 : AV) (σ : aM) (x : Int) (r : List AV) (h : 0 ≤ x ∧ x < gI σ 34 0 (-1)) : ev 213 280 [a0, a1, a2, a3] (aI x :: aR 34 0 :: r) σ = ev 213 281 [a0, a1, a2, a3] (aI (gI σ 34 0 x) :: r) σ := ev_ldS f_Law_law_280 rfl h
theorem f_Law_law_281 : fetch 213 281 = some (.i2l) := by decide +kernel
theorem e_Law_law_281 (a0 a1 a2 a3 : AV) (σ : aM) (x : Int) (r : List AV)  : ev 213 281 [a0, a1, a2, a3] (aI x :: r) σ = ev 213 282 [a0, a1, a2, a3] (aJ (toj x) :: r) σ := ev_go f_Law_law_281 rfl
theorem f_Law_law_282 : fetch 213 282 = some (.bipush 32) := by decide +kernel
theorem e_Law_law_282 (a0 a1 a2 a3 : AV) (σ : aM) (r : List AV)  : ev 213 282 [a0, a1, a2, a3] (r) σ = ev 213 284 [a0, a1, a2, a3] (aI 32 :: r) σ := ev_go f_Law_law_282 rfl
theorem f_Law_law_284 : fetch 213 284 = some (.lshl) := by decide +kernel
theorem e_Law_law_284 (a0 a1 a2 a3 : AV) (σ : aM) (x : Int64) (z : Int) (r : List AV)  : ev 213 284 [a0, a1, a2, a3] (aI z :: aJ x :: r) σ = ev 213 285 [a0, a1, a2, a3] (aJ (x <<< (toj z &&& 63)) :: r) σ := ev_go f_Law_law_284 rfl
theorem f_Law_law_285 : fetch 213 285 = some (.aload_n 0) := by decide +kernel
theorem e_Law_law_285 (a1 a2 a3 : AV) (σ : aM) (l0 : Option (Nat × Int)) (r : List AV)  : ev 213 285 [aQ l0, a1, a2, a3] (r) σ = ev 213 286 [aQ l0, a1, a2, a3] (aQ l0 :: r) σ := ev_go f_Law_law_285 rfl
theorem f_Law_law_286 : fetch 213 286 = some (.iload_n 3) := by decide +kernel
theorem e_Law_law_286 (a0 a1 a2 : AV) (σ : aM) (l3 : Int) (r : List AV)  : ev 213 286 [a0, a1, a2, aI l3] (r) σ = ev 213 287 [a0, a1, a2, aI l3] (aI l3 :: r) σ := ev_go f_Law_law_286 rfl
theorem f_Law_law_287 : fetch 213 287 = some (.iconst 4) := by decide +kernel
theorem e_Law_law_287 (a0 a1 a2 a3 : AV) (σ : aM) (r : List AV)  : ev 213 287 [a0, a1, a2, a3] (r) σ = ev 213 288 [a0, a1, a2, a3] (aI 4 :: r) σ := ev_go f_Law_law_287 rfl
theorem f_Law_law_288 : fetch 213 288 = some (.iadd) := by decide +kernel
theorem e_Law_law_288 (a0 a1 a2 a3 : AV) (σ : aM) (x z : Int) (r : List AV)  : ev 213 288 [a0, a1, a2, a3] (aI z :: aI x :: r) σ = ev 213 289 [a0, a1, a2, a3] (aI (wr (x + z)) :: r) σ := ev_go f_Law_law_288 rfl
theorem f_Law_law_289 : fetch 213 289 = some (.iaload) := by decide +kernel
theorem e_Law_law_289 (a0 a1 a2 a3 : AV) (σ : aM) (x : Int) (r : List AV) (h : 0 ≤ x ∧ x < gI σ 34 0 (-1)) : ev 213 289 [a0, a1, a2, a3] (aI x :: aR 34 0 :: r) σ = ev 213 290 [a0, a1, a2, a3] (aI (gI σ 34 0 x) :: r) σ := ev_ldS f_Law_law_289 rfl h
theorem f_Law_law_290 : fetch 213 290 = some (.i2l) := by decide +kernel
theorem e_Law_law_290 (a0 a1 a2 a3 : AV) (σ : aM) (x : Int) (r : List AV)  : ev 213 290 [a0, a1, a2, a3] (aI x :: r) σ = ev 213 291 [a0, a1, a2, a3] (aJ (toj x) :: r) σ := ev_go f_Law_law_290 rfl
theorem f_Law_law_291 : fetch 213 291 = some (.ldc2_w 18) := by decide +kernel
theorem e_Law_law_291 (a0 a1 a2 a3 : AV) (σ : aM) (r : List AV)  : ev 213 291 [a0, a1, a2, a3] (r) σ = ev 213 294 [a0, a1, a2, a3] (aJ 4294967295 :: r) σ := ev_go f_Law_law_291 rfl
theorem f_Law_law_294 : fetch 213 294 = some (.land) := by decide +kernel
theorem e_Law_law_294 (a0 a1 a2 a3 : AV) (σ : aM) (x z : Int64) (r : List AV)  : ev 213 294 [a0, a1, a2, a3] (aJ z :: aJ x :: r) σ = ev 213 295 [a0, a1, a2, a3] (aJ (x &&& z) :: r) σ := ev_go f_Law_law_294 rfl
theorem f_Law_law_295 : fetch 213 295 = some (.lor) := by decide +kernel
theorem e_Law_law_295 (a0 a1 a2 a3 : AV) (σ : aM) (x z : Int64) (r : List AV)  : ev 213 295 [a0, a1, a2, a3] (aJ z :: aJ x :: r) σ = ev 213 296 [a0, a1, a2, a3] (aJ (x ||| z) :: r) σ := ev_go f_Law_law_295 rfl
theorem f_Law_law_296 : fetch 213 296 = some (.invokevirtual 24) := by decide +kernel
theorem e_Law_law_296 (a0 a1 a2 a3 : AV) (σ : aM) (s0 : Int) (s1 : Int) (s2 : Int) (s3 : Int) (s4 : Int64) : ev 213 296 [a0, a1, a2, a3] [aJ s4, aI s3, aI s2, aR 25 s1, aI s0] σ = evK 213 299 [a0, a1, a2, a3] [aI s0] (ev 133 0 [aR 25 s1, aI s2, aI s3, aJ s4, aU, aU] [] σ) := ev_call f_Law_law_296 rfl rfl
theorem f_Law_law_299 : fetch 213 299 = some (.if_icmp .eq 1025) := by decide +kernel
theorem e_Law_law_299 (a0 a1 a2 a3 : AV) (σ : aM) (x z : Int) (r : List AV) : ev 213 299 [a0, a1, a2, a3] (aI z :: aI x :: r) σ = if x = z then ev 213 1324 [a0, a1, a2, a3] r σ else ev 213 302 [a0, a1, a2, a3] r σ := ev_br f_Law_law_299 rfl bc_eq
theorem f_Law_law_302 : fetch 213 302 = some (.iconst 0) := by decide +kernel
theorem e_Law_law_302 (a0 a1 a2 a3 : AV) (σ : aM) (r : List AV)  : ev 213 302 [a0, a1, a2, a3] (r) σ = ev 213 303 [a0, a1, a2, a3] (aI 0 :: r) σ := ev_go f_Law_law_302 rfl
theorem f_Law_law_303 : fetch 213 303 = some (.ireturn) := by decide +kernel
theorem e_Law_law_303 (a0 a1 a2 a3 : AV) (σ : aM) (x : Int) (h : x = 0 ∨ x = 1) : ev 213 303 [a0, a1, a2, a3] [aI x] σ = some ((some (aI x)), σ) := ev_rB f_Law_law_303 rfl h
theorem f_Law_law_304 : fetch 213 304 = some (.aload_n 1) := by decide +kernel
theorem e_Law_law_304 (a0 a2 a3 : AV) (σ : aM) (l1 : Option (Nat × Int)) (r : List AV)  : ev 213 304 [a0, aQ l1, a2, a3] (r) σ = ev 213 305 [a0, aQ l1, a2, a3] (aQ l1 :: r) σ := ev_go f_Law_law_304 rfl
theorem f_Law_law_305 : fetch 213 305 = some (.aload_n 0) := by decide +kernel
theorem e_Law_law_305 (a1 a2 a3 : AV) (σ : aM) (l0 : Option (Nat × Int)) (r : List AV)  : ev 213 305 [aQ l0, a1, a2, a3] (r) σ = ev 213 306 [aQ l0, a1, a2, a3] (aQ l0 :: r) σ := ev_go f_Law_law_305 rfl
theorem f_Law_law_306 : fetch 213 306 = some (.iload_n 3) := by decide +kernel
theorem e_Law_law_306 (a0 a1 a2 : AV) (σ : aM) (l3 : Int) (r : List AV)  : ev 213 306 [a0, a1, a2, aI l3] (r) σ = ev 213 307 [a0, a1, a2, aI l3] (aI l3 :: r) σ := ev_go f_Law_law_306 rfl
theorem f_Law_law_307 : fetch 213 307 = some (.iconst 1) := by decide +kernel
theorem e_Law_law_307 (a0 a1 a2 a3 : AV) (σ : aM) (r : List AV)  : ev 213 307 [a0, a1, a2, a3] (r) σ = ev 213 308 [a0, a1, a2, a3] (aI 1 :: r) σ := ev_go f_Law_law_307 rfl
theorem f_Law_law_308 : fetch 213 308 = some (.iadd) := by decide +kernel
theorem e_Law_law_308 (a0 a1 a2 a3 : AV) (σ : aM) (x z : Int) (r : List AV)  : ev 213 308 [a0, a1, a2, a3] (aI z :: aI x :: r) σ = ev 213 309 [a0, a1, a2, a3] (aI (wr (x + z)) :: r) σ := ev_go f_Law_law_308 rfl
theorem f_Law_law_309 : fetch 213 309 = some (.iaload) := by decide +kernel
theorem e_Law_law_309 (a0 a1 a2 a3 : AV) (σ : aM) (x : Int) (r : List AV) (h : 0 ≤ x ∧ x < gI σ 34 0 (-1)) : ev 213 309 [a0, a1, a2, a3] (aI x :: aR 34 0 :: r) σ = ev 213 310 [a0, a1, a2, a3] (aI (gI σ 34 0 x) :: r) σ := ev_ldS f_Law_law_309 rfl h
theorem f_Law_law_310 : fetch 213 310 = some (.aload_n 0) := by decide +kernel
theorem e_Law_law_310 (a1 a2 a3 : AV) (σ : aM) (l0 : Option (Nat × Int)) (r : List AV)  : ev 213 310 [aQ l0, a1, a2, a3] (r) σ = ev 213 311 [aQ l0, a1, a2, a3] (aQ l0 :: r) σ := ev_go f_Law_law_310 rfl
theorem f_Law_law_311 : fetch 213 311 = some (.iload_n 3) := by decide +kernel
theorem e_Law_law_311 (a0 a1 a2 : AV) (σ : aM) (l3 : Int) (r : List AV)  : ev 213 311 [a0, a1, a2, aI l3] (r) σ = ev 213 312 [a0, a1, a2, aI l3] (aI l3 :: r) σ := ev_go f_Law_law_311 rfl
theorem f_Law_law_312 : fetch 213 312 = some (.iconst 2) := by decide +kernel
theorem e_Law_law_312 (a0 a1 a2 a3 : AV) (σ : aM) (r : List AV)  : ev 213 312 [a0, a1, a2, a3] (r) σ = ev 213 313 [a0, a1, a2, a3] (aI 2 :: r) σ := ev_go f_Law_law_312 rfl
theorem f_Law_law_313 : fetch 213 313 = some (.iadd) := by decide +kernel
theorem e_Law_law_313 (a0 a1 a2 a3 : AV) (σ : aM) (x z : Int) (r : List AV)  : ev 213 313 [a0, a1, a2, a3] (aI z :: aI x :: r) σ = ev 213 314 [a0, a1, a2, a3] (aI (wr (x + z)) :: r) σ := ev_go f_Law_law_313 rfl
theorem f_Law_law_314 : fetch 213 314 = some (.iaload) := by decide +kernel
theorem e_Law_law_314 (a0 a1 a2 a3 : AV) (σ : aM) (x : Int) (r : List AV) (h : 0 ≤ x ∧ x < gI σ 34 0 (-1)) : ev 213 314 [a0, a1, a2, a3] (aI x :: aR 34 0 :: r) σ = ev 213 315 [a0, a1, a2, a3] (aI (gI σ 34 0 x) :: r) σ := ev_ldS f_Law_law_314 rfl h
theorem f_Law_law_315 : fetch 213 315 = some (.aload_n 0) := by decide +kernel
theorem e_Law_law_315 (a1 a2 a3 : AV) (σ : aM) (l0 : Option (Nat × Int)) (r : List AV)  : ev 213 315 [aQ l0, a1, a2, a3] (r) σ = ev 213 316 [aQ l0, a1, a2, a3] (aQ l0 :: r) σ := ev_go f_Law_law_315 rfl
theorem f_Law_law_316 : fetch 213 316 = some (.iload_n 3) := by decide +kernel
theorem e_Law_law_316 (a0 a1 a2 : AV) (σ : aM) (l3 : Int) (r : List AV)  : ev 213 316 [a0, a1, a2, aI l3] (r) σ = ev 213 317 [a0, a1, a2, aI l3] (aI l3 :: r) σ := ev_go f_Law_law_316 rfl
theorem f_Law_law_317 : fetch 213 317 = some (.iconst 3) := by decide +kernel
theorem e_Law_law_317 (a0 a1 a2 a3 : AV) (σ : aM) (r : List AV)  : ev 213 317 [a0, a1, a2, a3] (r) σ = ev 213 318 [a0, a1, a2, a3] (aI 3 :: r) σ := ev_go f_Law_law_317 rfl
theorem f_Law_law_318 : fetch 213 318 = some (.iadd) := by decide +kernel
theorem e_Law_law_318 (a0 a1 a2 a3 : AV) (σ : aM) (x z : Int) (r : List AV)  : ev 213 318 [a0, a1, a2, a3] (aI z :: aI x :: r) σ = ev 213 319 [a0, a1, a2, a3] (aI (wr (x + z)) :: r) σ := ev_go f_Law_law_318 rfl
theorem f_Law_law_319 : fetch 213 319 = some (.iaload) := by decide +kernel
theorem e_Law_law_319 (a0 a1 a2 a3 : AV) (σ : aM) (x : Int) (r : List AV) (h : 0 ≤ x ∧ x < gI σ 34 0 (-1)) : ev 213 319 [a0, a1, a2, a3] (aI x :: aR 34 0 :: r) σ = ev 213 320 [a0, a1, a2, a3] (aI (gI σ 34 0 x) :: r) σ := ev_ldS f_Law_law_319 rfl h
theorem f_Law_law_320 : fetch 213 320 = some (.aload_n 0) := by decide +kernel
theorem e_Law_law_320 (a1 a2 a3 : AV) (σ : aM) (l0 : Option (Nat × Int)) (r : List AV)  : ev 213 320 [aQ l0, a1, a2, a3] (r) σ = ev 213 321 [aQ l0, a1, a2, a3] (aQ l0 :: r) σ := ev_go f_Law_law_320 rfl
theorem f_Law_law_321 : fetch 213 321 = some (.iload_n 3) := by decide +kernel
theorem e_Law_law_321 (a0 a1 a2 : AV) (σ : aM) (l3 : Int) (r : List AV)  : ev 213 321 [a0, a1, a2, aI l3] (r) σ = ev 213 322 [a0, a1, a2, aI l3] (aI l3 :: r) σ := ev_go f_Law_law_321 rfl
theorem f_Law_law_322 : fetch 213 322 = some (.iconst 4) := by decide +kernel
theorem e_Law_law_322 (a0 a1 a2 a3 : AV) (σ : aM) (r : List AV)  : ev 213 322 [a0, a1, a2, a3] (r) σ = ev 213 323 [a0, a1, a2, a3] (aI 4 :: r) σ := ev_go f_Law_law_322 rfl
theorem f_Law_law_323 : fetch 213 323 = some (.iadd) := by decide +kernel
theorem e_Law_law_323 (a0 a1 a2 a3 : AV) (σ : aM) (x z : Int) (r : List AV)  : ev 213 323 [a0, a1, a2, a3] (aI z :: aI x :: r) σ = ev 213 324 [a0, a1, a2, a3] (aI (wr (x + z)) :: r) σ := ev_go f_Law_law_323 rfl
theorem f_Law_law_324 : fetch 213 324 = some (.iaload) := by decide +kernel
theorem e_Law_law_324 (a0 a1 a2 a3 : AV) (σ : aM) (x : Int) (r : List AV) (h : 0 ≤ x ∧ x < gI σ 34 0 (-1)) : ev 213 324 [a0, a1, a2, a3] (aI x :: aR 34 0 :: r) σ = ev 213 325 [a0, a1, a2, a3] (aI (gI σ 34 0 x) :: r) σ := ev_ldS f_Law_law_324 rfl h
theorem f_Law_law_325 : fetch 213 325 = some (.aload_n 0) := by decide +kernel
theorem e_Law_law_325 (a1 a2 a3 : AV) (σ : aM) (l0 : Option (Nat × Int)) (r : List AV)  : ev 213 325 [aQ l0, a1, a2, a3] (r) σ = ev 213 326 [aQ l0, a1, a2, a3] (aQ l0 :: r) σ := ev_go f_Law_law_325 rfl
theorem f_Law_law_326 : fetch 213 326 = some (.iload_n 3) := by decide +kernel
theorem e_Law_law_326 (a0 a1 a2 : AV) (σ : aM) (l3 : Int) (r : List AV)  : ev 213 326 [a0, a1, a2, aI l3] (r) σ = ev 213 327 [a0, a1, a2, aI l3] (aI l3 :: r) σ := ev_go f_Law_law_326 rfl
theorem f_Law_law_327 : fetch 213 327 = some (.iconst 5) := by decide +kernel
theorem e_Law_law_327 (a0 a1 a2 a3 : AV) (σ : aM) (r : List AV)  : ev 213 327 [a0, a1, a2, a3] (r) σ = ev 213 328 [a0, a1, a2, a3] (aI 5 :: r) σ := ev_go f_Law_law_327 rfl
theorem f_Law_law_328 : fetch 213 328 = some (.iadd) := by decide +kernel
theorem e_Law_law_328 (a0 a1 a2 a3 : AV) (σ : aM) (x z : Int) (r : List AV)  : ev 213 328 [a0, a1, a2, a3] (aI z :: aI x :: r) σ = ev 213 329 [a0, a1, a2, a3] (aI (wr (x + z)) :: r) σ := ev_go f_Law_law_328 rfl
theorem f_Law_law_329 : fetch 213 329 = some (.iaload) := by decide +kernel
theorem e_Law_law_329 (a0 a1 a2 a3 : AV) (σ : aM) (x : Int) (r : List AV) (h : 0 ≤ x ∧ x < gI σ 34 0 (-1)) : ev 213 329 [a0, a1, a2, a3] (aI x :: aR 34 0 :: r) σ = ev 213 330 [a0, a1, a2, a3] (aI (gI σ 34 0 x) :: r) σ := ev_ldS f_Law_law_329 rfl h
theorem f_Law_law_330 : fetch 213 330 = some (.invokevirtual 25) := by decide +kernel
theorem e_Law_law_330 (a0 a1 a2 a3 : AV) (σ : aM) (s0 : Int) (s1 : Int) (s2 : Int) (s3 : Int) (s4 : Int) (s5 : Int) : ev 213 330 [a0, a1, a2, a3] [aI s5, aI s4, aI s3, aI s2, aI s1, aR 0 s0] σ = evK 213 333 [a0, a1, a2, a3] [] (ev 80 0 [aR 0 s0, aI s1, aI s2, aI s3, aI s4, aI s5, aU, aU] [] σ) := ev_call f_Law_law_330 rfl rfl
theorem f_Law_law_333 : fetch 213 333 = some (.aload_n 2) := by decide +kernel
theorem e_Law_law_333 (a0 a1 a3 : AV) (σ : aM) (l2 : Option (Nat × Int)) (r : List AV)  : ev 213 333 [a0, a1, aQ l2, a3] (r) σ = ev 213 334 [a0, a1, aQ l2, a3] (aQ l2 :: r) σ := ev_go f_Law_law_333 rfl
theorem f_Law_law_334 : fetch 213 334 = some (.aload_n 0) := by decide +kernel
theorem e_Law_law_334 (a1 a2 a3 : AV) (σ : aM) (l0 : Option (Nat × Int)) (r : List AV)  : ev 213 334 [aQ l0, a1, a2, a3] (r) σ = ev 213 335 [aQ l0, a1, a2, a3] (aQ l0 :: r) σ := ev_go f_Law_law_334 rfl
theorem f_Law_law_335 : fetch 213 335 = some (.iload_n 3) := by decide +kernel
theorem e_Law_law_335 (a0 a1 a2 : AV) (σ : aM) (l3 : Int) (r : List AV)  : ev 213 335 [a0, a1, a2, aI l3] (r) σ = ev 213 336 [a0, a1, a2, aI l3] (aI l3 :: r) σ := ev_go f_Law_law_335 rfl
theorem f_Law_law_336 : fetch 213 336 = some (.iconst 1) := by decide +kernel
theorem e_Law_law_336 (a0 a1 a2 a3 : AV) (σ : aM) (r : List AV)  : ev 213 336 [a0, a1, a2, a3] (r) σ = ev 213 337 [a0, a1, a2, a3] (aI 1 :: r) σ := ev_go f_Law_law_336 rfl
theorem f_Law_law_337 : fetch 213 337 = some (.iadd) := by decide +kernel
theorem e_Law_law_337 (a0 a1 a2 a3 : AV) (σ : aM) (x z : Int) (r : List AV)  : ev 213 337 [a0, a1, a2, a3] (aI z :: aI x :: r) σ = ev 213 338 [a0, a1, a2, a3] (aI (wr (x + z)) :: r) σ := ev_go f_Law_law_337 rfl
theorem f_Law_law_338 : fetch 213 338 = some (.iaload) := by decide +kernel
theorem e_Law_law_338 (a0 a1 a2 a3 : AV) (σ : aM) (x : Int) (r : List AV) (h : 0 ≤ x ∧ x < gI σ 34 0 (-1)) : ev 213 338 [a0, a1, a2, a3] (aI x :: aR 34 0 :: r) σ = ev 213 339 [a0, a1, a2, a3] (aI (gI σ 34 0 x) :: r) σ := ev_ldS f_Law_law_338 rfl h
theorem f_Law_law_339 : fetch 213 339 = some (.aload_n 0) := by decide +kernel
theorem e_Law_law_339 (a1 a2 a3 : AV) (σ : aM) (l0 : Option (Nat × Int)) (r : List AV)  : ev 213 339 [aQ l0, a1, a2, a3] (r) σ = ev 213 340 [aQ l0, a1, a2, a3] (aQ l0 :: r) σ := ev_go f_Law_law_339 rfl
theorem f_Law_law_340 : fetch 213 340 = some (.iload_n 3) := by decide +kernel
theorem e_Law_law_340 (a0 a1 a2 : AV) (σ : aM) (l3 : Int) (r : List AV)  : ev 213 340 [a0, a1, a2, aI l3] (r) σ = ev 213 341 [a0, a1, a2, aI l3] (aI l3 :: r) σ := ev_go f_Law_law_340 rfl
theorem f_Law_law_341 : fetch 213 341 = some (.iconst 2) := by decide +kernel
theorem e_Law_law_341 (a0 a1 a2 a3 : AV) (σ : aM) (r : List AV)  : ev 213 341 [a0, a1, a2, a3] (r) σ = ev 213 342 [a0, a1, a2, a3] (aI 2 :: r) σ := ev_go f_Law_law_341 rfl
theorem f_Law_law_342 : fetch 213 342 = some (.iadd) := by decide +kernel
theorem e_Law_law_342 (a0 a1 a2 a3 : AV) (σ : aM) (x z : Int) (r : List AV)  : ev 213 342 [a0, a1, a2, a3] (aI z :: aI x :: r) σ = ev 213 343 [a0, a1, a2, a3] (aI (wr (x + z)) :: r) σ := ev_go f_Law_law_342 rfl
theorem f_Law_law_343 : fetch 213 343 = some (.iaload) := by decide +kernel
theorem e_Law_law_343 (a0 a1 a2 a3 : AV) (σ : aM) (x : Int) (r : List AV) (h : 0 ≤ x ∧ x < gI σ 34 0 (-1)) : ev 213 343 [a0, a1, a2, a3] (aI x :: aR 34 0 :: r) σ = ev 213 344 [a0, a1, a2, a3] (aI (gI σ 34 0 x) :: r) σ := ev_ldS f_Law_law_343 rfl h
theorem f_Law_law_344 : fetch 213 344 = some (.aload_n 0) := by decide +kernel
theorem e_Law_law_344 (a1 a2 a3 : AV) (σ : aM) (l0 : Option (Nat × Int)) (r : List AV)  : ev 213 344 [aQ l0, a1, a2, a3] (r) σ = ev 213 345 [aQ l0, a1, a2, a3] (aQ l0 :: r) σ := ev_go f_Law_law_344 rfl
theorem f_Law_law_345 : fetch 213 345 = some (.iload_n 3) := by decide +kernel
theorem e_Law_law_345 (a0 a1 a2 : AV) (σ : aM) (l3 : Int) (r : List AV)  : ev 213 345 [a0, a1, a2, aI l3] (r) σ = ev 213 346 [a0, a1, a2, aI l3] (aI l3 :: r) σ := ev_go f_Law_law_345 rfl
theorem f_Law_law_346 : fetch 213 346 = some (.iconst 3) := by decide +kernel
theorem e_Law_law_346 (a0 a1 a2 a3 : AV) (σ : aM) (r : List AV)  : ev 213 346 [a0, a1, a2, a3] (r) σ = ev 213 347 [a0, a1, a2, a3] (aI 3 :: r) σ := ev_go f_Law_law_346 rfl
theorem f_Law_law_347 : fetch 213 347 = some (.iadd) := by decide +kernel
theorem e_Law_law_347 (a0 a1 a2 a3 : AV) (σ : aM) (x z : Int) (r : List AV)  : ev 213 347 [a0, a1, a2, a3] (aI z :: aI x :: r) σ = ev 213 348 [a0, a1, a2, a3] (aI (wr (x + z)) :: r) σ := ev_go f_Law_law_347 rfl
theorem f_Law_law_348 : fetch 213 348 = some (.iaload) := by decide +kernel
theorem e_Law_law_348 (a0 a1 a2 a3 : AV) (σ : aM) (x : Int) (r : List AV) (h : 0 ≤ x ∧ x < gI σ 34 0 (-1)) : ev 213 348 [a0, a1, a2, a3] (aI x :: aR 34 0 :: r) σ = ev 213 349 [a0, a1, a2, a3] (aI (gI σ 34 0 x) :: r) σ := ev_ldS f_Law_law_348 rfl h
theorem f_Law_law_349 : fetch 213 349 = some (.aload_n 0) := by decide +kernel
theorem e_Law_law_349 (a1 a2 a3 : AV) (σ : aM) (l0 : Option (Nat × Int)) (r : List AV)  : ev 213 349 [aQ l0, a1, a2, a3] (r) σ = ev 213 350 [aQ l0, a1, a2, a3] (aQ l0 :: r) σ := ev_go f_Law_law_349 rfl
theorem f_Law_law_350 : fetch 213 350 = some (.iload_n 3) := by decide +kernel
theorem e_Law_law_350 (a0 a1 a2 : AV) (σ : aM) (l3 : Int) (r : List AV)  : ev 213 350 [a0, a1, a2, aI l3] (r) σ = ev 213 351 [a0, a1, a2, aI l3] (aI l3 :: r) σ := ev_go f_Law_law_350 rfl
theorem f_Law_law_351 : fetch 213 351 = some (.iconst 4) := by decide +kernel
theorem e_Law_law_351 (a0 a1 a2 a3 : AV) (σ : aM) (r : List AV)  : ev 213 351 [a0, a1, a2, a3] (r) σ = ev 213 352 [a0, a1, a2, a3] (aI 4 :: r) σ := ev_go f_Law_law_351 rfl
theorem f_Law_law_352 : fetch 213 352 = some (.iadd) := by decide +kernel
theorem e_Law_law_352 (a0 a1 a2 a3 : AV) (σ : aM) (x z : Int) (r : List AV)  : ev 213 352 [a0, a1, a2, a3] (aI z :: aI x :: r) σ = ev 213 353 [a0, a1, a2, a3] (aI (wr (x + z)) :: r) σ := ev_go f_Law_law_352 rfl
theorem f_Law_law_353 : fetch 213 353 = some (.iaload) := by decide +kernel
theorem e_Law_law_353 (a0 a1 a2 a3 : AV) (σ : aM) (x : Int) (r : List AV) (h : 0 ≤ x ∧ x < gI σ 34 0 (-1)) : ev 213 353 [a0, a1, a2, a3] (aI x :: aR 34 0 :: r) σ = ev 213 354 [a0, a1, a2, a3] (aI (gI σ 34 0 x) :: r) σ := ev_ldS f_Law_law_353 rfl h
theorem f_Law_law_354 : fetch 213 354 = some (.aload_n 0) := by decide +kernel
theorem e_Law_law_354 (a1 a2 a3 : AV) (σ : aM) (l0 : Option (Nat × Int)) (r : List AV)  : ev 213 354 [aQ l0, a1, a2, a3] (r) σ = ev 213 355 [aQ l0, a1, a2, a3] (aQ l0 :: r) σ := ev_go f_Law_law_354 rfl
theorem f_Law_law_355 : fetch 213 355 = some (.iload_n 3) := by decide +kernel
theorem e_Law_law_355 (a0 a1 a2 : AV) (σ : aM) (l3 : Int) (r : List AV)  : ev 213 355 [a0, a1, a2, aI l3] (r) σ = ev 213 356 [a0, a1, a2, aI l3] (aI l3 :: r) σ := ev_go f_Law_law_355 rfl
theorem f_Law_law_356 : fetch 213 356 = some (.iconst 5) := by decide +kernel
theorem e_Law_law_356 (a0 a1 a2 a3 : AV) (σ : aM) (r : List AV)  : ev 213 356 [a0, a1, a2, a3] (r) σ = ev 213 357 [a0, a1, a2, a3] (aI 5 :: r) σ := ev_go f_Law_law_356 rfl
theorem f_Law_law_357 : fetch 213 357 = some (.iadd) := by decide +kernel
theorem e_Law_law_357 (a0 a1 a2 a3 : AV) (σ : aM) (x z : Int) (r : List AV)  : ev 213 357 [a0, a1, a2, a3] (aI z :: aI x :: r) σ = ev 213 358 [a0, a1, a2, a3] (aI (wr (x + z)) :: r) σ := ev_go f_Law_law_357 rfl
theorem f_Law_law_358 : fetch 213 358 = some (.iaload) := by decide +kernel
theorem e_Law_law_358 (a0 a1 a2 a3 : AV) (σ : aM) (x : Int) (r : List AV) (h : 0 ≤ x ∧ x < gI σ 34 0 (-1)) : ev 213 358 [a0, a1, a2, a3] (aI x :: aR 34 0 :: r) σ = ev 213 359 [a0, a1, a2, a3] (aI (gI σ 34 0 x) :: r) σ := ev_ldS f_Law_law_358 rfl h
theorem f_Law_law_359 : fetch 213 359 = some (.invokevirtual 29) := by decide +kernel
theorem e_Law_law_359 (a0 a1 a2 a3 : AV) (σ : aM) (s0 : Int) (s1 : Int) (s2 : Int) (s3 : Int) (s4 : Int) (s5 : Int) (s6 : Int) : ev 213 359 [a0, a1, a2, a3] [aI s6, aI s5, aI s4, aI s3, aI s2, aR 25 s1, aI s0] σ = evK 213 362 [a0, a1, a2, a3] [aI s0] (ev 134 0 [aR 25 s1, aI s2, aI s3, aI s4, aI s5, aI s6, aU, aU] [] σ) := ev_call f_Law_law_359 rfl rfl
theorem f_Law_law_362 : fetch 213 362 = some (.if_icmp .eq 962) := by decide +kernel
theorem e_Law_law_362 (a0 a1 a2 a3 : AV) (σ : aM) (x z : Int) (r : List AV) : ev 213 362 [a0, a1, a2, a3] (aI z :: aI x :: r) σ = if x = z then ev 213 1324 [a0, a1, a2, a3] r σ else ev 213 365 [a0, a1, a2, a3] r σ := ev_br f_Law_law_362 rfl bc_eq
theorem f_Law_law_365 : fetch 213 365 = some (.iconst 0) := by decide +kernel
theorem e_Law_law_365 (a0 a1 a2 a3 : AV) (σ : aM) (r : List AV)  : ev 213 365 [a0, a1, a2, a3] (r) σ = ev 213 366 [a0, a1, a2, a3] (aI 0 :: r) σ := ev_go f_Law_law_365 rfl
theorem f_Law_law_366 : fetch 213 366 = some (.ireturn) := by decide +kernel
theorem e_Law_law_366 (a0 a1 a2 a3 : AV) (σ : aM) (x : Int) (h : x = 0 ∨ x = 1) : ev 213 366 [a0, a1, a2, a3] [aI x] σ = some ((some (aI x)), σ) := ev_rB f_Law_law_366 rfl h
theorem f_Law_law_367 : fetch 213 367 = some (.aload_n 1) := by decide +kernel
theorem e_Law_law_367 (a0 a2 a3 : AV) (σ : aM) (l1 : Option (Nat × Int)) (r : List AV)  : ev 213 367 [a0, aQ l1, a2, a3] (r) σ = ev 213 368 [a0, aQ l1, a2, a3] (aQ l1 :: r) σ := ev_go f_Law_law_367 rfl
theorem f_Law_law_368 : fetch 213 368 = some (.aload_n 0) := by decide +kernel
theorem e_Law_law_368 (a1 a2 a3 : AV) (σ : aM) (l0 : Option (Nat × Int)) (r : List AV)  : ev 213 368 [aQ l0, a1, a2, a3] (r) σ = ev 213 369 [aQ l0, a1, a2, a3] (aQ l0 :: r) σ := ev_go f_Law_law_368 rfl
theorem f_Law_law_369 : fetch 213 369 = some (.iload_n 3) := by decide +kernel
theorem e_Law_law_369 (a0 a1 a2 : AV) (σ : aM) (l3 : Int) (r : List AV)  : ev 213 369 [a0, a1, a2, aI l3] (r) σ = ev 213 370 [a0, a1, a2, aI l3] (aI l3 :: r) σ := ev_go f_Law_law_369 rfl
theorem f_Law_law_370 : fetch 213 370 = some (.iconst 1) := by decide +kernel
theorem e_Law_law_370 (a0 a1 a2 a3 : AV) (σ : aM) (r : List AV)  : ev 213 370 [a0, a1, a2, a3] (r) σ = ev 213 371 [a0, a1, a2, a3] (aI 1 :: r) σ := ev_go f_Law_law_370 rfl
theorem f_Law_law_371 : fetch 213 371 = some (.iadd) := by decide +kernel
theorem e_Law_law_371 (a0 a1 a2 a3 : AV) (σ : aM) (x z : Int) (r : List AV)  : ev 213 371 [a0, a1, a2, a3] (aI z :: aI x :: r) σ = ev 213 372 [a0, a1, a2, a3] (aI (wr (x + z)) :: r) σ := ev_go f_Law_law_371 rfl
theorem f_Law_law_372 : fetch 213 372 = some (.iaload) := by decide +kernel
theorem e_Law_law_372 (a0 a1 a2 a3 : AV) (σ : aM) (x : Int) (r : List AV) (h : 0 ≤ x ∧ x < gI σ 34 0 (-1)) : ev 213 372 [a0, a1, a2, a3] (aI x :: aR 34 0 :: r) σ = ev 213 373 [a0, a1, a2, a3] (aI (gI σ 34 0 x) :: r) σ := ev_ldS f_Law_law_372 rfl h
theorem f_Law_law_373 : fetch 213 373 = some (.aload_n 0) := by decide +kernel
theorem e_Law_law_373 (a1 a2 a3 : AV) (σ : aM) (l0 : Option (Nat × Int)) (r : List AV)  : ev 213 373 [aQ l0, a1, a2, a3] (r) σ = ev 213 374 [aQ l0, a1, a2, a3] (aQ l0 :: r) σ := ev_go f_Law_law_373 rfl
theorem f_Law_law_374 : fetch 213 374 = some (.iload_n 3) := by decide +kernel
theorem e_Law_law_374 (a0 a1 a2 : AV) (σ : aM) (l3 : Int) (r : List AV)  : ev 213 374 [a0, a1, a2, aI l3] (r) σ = ev 213 375 [a0, a1, a2, aI l3] (aI l3 :: r) σ := ev_go f_Law_law_374 rfl
theorem f_Law_law_375 : fetch 213 375 = some (.iconst 2) := by decide +kernel
theorem e_Law_law_375 (a0 a1 a2 a3 : AV) (σ : aM) (r : List AV)  : ev 213 375 [a0, a1, a2, a3] (r) σ = ev 213 376 [a0, a1, a2, a3] (aI 2 :: r) σ := ev_go f_Law_law_375 rfl
theorem f_Law_law_376 : fetch 213 376 = some (.iadd) := by decide +kernel
theorem e_Law_law_376 (a0 a1 a2 a3 : AV) (σ : aM) (x z : Int) (r : List AV)  : ev 213 376 [a0, a1, a2, a3] (aI z :: aI x :: r) σ = ev 213 377 [a0, a1, a2, a3] (aI (wr (x + z)) :: r) σ := ev_go f_Law_law_376 rfl
theorem f_Law_law_377 : fetch 213 377 = some (.iaload) := by decide +kernel
theorem e_Law_law_377 (a0 a1 a2 a3 : AV) (σ : aM) (x : Int) (r : List AV) (h : 0 ≤ x ∧ x < gI σ 34 0 (-1)) : ev 213 377 [a0, a1, a2, a3] (aI x :: aR 34 0 :: r) σ = ev 213 378 [a0, a1, a2, a3] (aI (gI σ 34 0 x) :: r) σ := ev_ldS f_Law_law_377 rfl h
theorem f_Law_law_378 : fetch 213 378 = some (.invokevirtual 30) := by decide +kernel
theorem e_Law_law_378 (a0 a1 a2 a3 : AV) (σ : aM) (s0 : Int) (s1 : Int) (s2 : Int) : ev 213 378 [a0, a1, a2, a3] [aI s2, aI s1, aR 0 s0] σ = evK 213 381 [a0, a1, a2, a3] [] (ev 81 0 [aR 0 s0, aI s1, aI s2] [] σ) := ev_call f_Law_law_378 rfl rfl
theorem f_Law_law_381 : fetch 213 381 = some (.aload_n 2) := by decide +kernel
theorem e_Law_law_381 (a0 a1 a3 : AV) (σ : aM) (l2 : Option (Nat × Int)) (r : List AV)  : ev 213 381 [a0, a1, aQ l2, a3] (r) σ = ev 213 382 [a0, a1, aQ l2, a3] (aQ l2 :: r) σ := ev_go f_Law_law_381 rfl
theorem f_Law_law_382 : fetch 213 382 = some (.aload_n 0) := by decide +kernel
theorem e_Law_law_382 (a1 a2 a3 : AV) (σ : aM) (l0 : Option (Nat × Int)) (r : List AV)  : ev 213 382 [aQ l0, a1, a2, a3] (r) σ = ev 213 383 [aQ l0, a1, a2, a3] (aQ l0 :: r) σ := ev_go f_Law_law_382 rfl
theorem f_Law_law_383 : fetch 213 383 = some (.iload_n 3) := by decide +kernel
theorem e_Law_law_383 (a0 a1 a2 : AV) (σ : aM) (l3 : Int) (r : List AV)  : ev 213 383 [a0, a1, a2, aI l3] (r) σ = ev 213 384 [a0, a1, a2, aI l3] (aI l3 :: r) σ := ev_go f_Law_law_383 rfl
theorem f_Law_law_384 : fetch 213 384 = some (.iconst 1) := by decide +kernel
theorem e_Law_law_384 (a0 a1 a2 a3 : AV) (σ : aM) (r : List AV)  : ev 213 384 [a0, a1, a2, a3] (r) σ = ev 213 385 [a0, a1, a2, a3] (aI 1 :: r) σ := ev_go f_Law_law_384 rfl
theorem f_Law_law_385 : fetch 213 385 = some (.iadd) := by decide +kernel
theorem e_Law_law_385 (a0 a1 a2 a3 : AV) (σ : aM) (x z : Int) (r : List AV)  : ev 213 385 [a0, a1, a2, a3] (aI z :: aI x :: r) σ = ev 213 386 [a0, a1, a2, a3] (aI (wr (x + z)) :: r) σ := ev_go f_Law_law_385 rfl
theorem f_Law_law_386 : fetch 213 386 = some (.iaload) := by decide +kernel
theorem e_Law_law_386 (a0 a1 a2 a3 : AV) (σ : aM) (x : Int) (r : List AV) (h : 0 ≤ x ∧ x < gI σ 34 0 (-1)) : ev 213 386 [a0, a1, a2, a3] (aI x :: aR 34 0 :: r) σ = ev 213 387 [a0, a1, a2, a3] (aI (gI σ 34 0 x) :: r) σ := ev_ldS f_Law_law_386 rfl h
theorem f_Law_law_387 : fetch 213 387 = some (.aload_n 0) := by decide +kernel
theorem e_Law_law_387 (a1 a2 a3 : AV) (σ : aM) (l0 : Option (Nat × Int)) (r : List AV)  : ev 213 387 [aQ l0, a1, a2, a3] (r) σ = ev 213 388 [aQ l0, a1, a2, a3] (aQ l0 :: r) σ := ev_go f_Law_law_387 rfl
theorem f_Law_law_388 : fetch 213 388 = some (.iload_n 3) := by decide +kernel
theorem e_Law_law_388 (a0 a1 a2 : AV) (σ : aM) (l3 : Int) (r : List AV)  : ev 213 388 [a0, a1, a2, aI l3] (r) σ = ev 213 389 [a0, a1, a2, aI l3] (aI l3 :: r) σ := ev_go f_Law_law_388 rfl
theorem f_Law_law_389 : fetch 213 389 = some (.iconst 2) := by decide +kernel
theorem e_Law_law_389 (a0 a1 a2 a3 : AV) (σ : aM) (r : List AV)  : ev 213 389 [a0, a1, a2, a3] (r) σ = ev 213 390 [a0, a1, a2, a3] (aI 2 :: r) σ := ev_go f_Law_law_389 rfl
theorem f_Law_law_390 : fetch 213 390 = some (.iadd) := by decide +kernel
theorem e_Law_law_390 (a0 a1 a2 a3 : AV) (σ : aM) (x z : Int) (r : List AV)  : ev 213 390 [a0, a1, a2, a3] (aI z :: aI x :: r) σ = ev 213 391 [a0, a1, a2, a3] (aI (wr (x + z)) :: r) σ := ev_go f_Law_law_390 rfl
theorem f_Law_law_391 : fetch 213 391 = some (.iaload) := by decide +kernel
theorem e_Law_law_391 (a0 a1 a2 a3 : AV) (σ : aM) (x : Int) (r : List AV) (h : 0 ≤ x ∧ x < gI σ 34 0 (-1)) : ev 213 391 [a0, a1, a2, a3] (aI x :: aR 34 0 :: r) σ = ev 213 392 [a0, a1, a2, a3] (aI (gI σ 34 0 x) :: r) σ := ev_ldS f_Law_law_391 rfl h
theorem f_Law_law_392 : fetch 213 392 = some (.invokevirtual 34) := by decide +kernel
theorem e_Law_law_392 (a0 a1 a2 a3 : AV) (σ : aM) (s0 : Int64) (s1 : Int) (s2 : Int) (s3 : Int) : ev 213 392 [a0, a1, a2, a3] [aI s3, aI s2, aR 25 s1, aJ s0] σ = evK 213 395 [a0, a1, a2, a3] [aJ s0] (ev 136 0 [aR 25 s1, aI s2, aI s3] [] σ) := ev_call f_Law_law_392 rfl rfl
theorem f_Law_law_395 : fetch 213 395 = some (.lcmp) := by decide +kernel
theorem e_Law_law_395 (a0 a1 a2 a3 : AV) (σ : aM) (x z : Int64) (r : List AV)  : ev 213 395 [a0, a1, a2, a3] (aJ z :: aJ x :: r) σ = ev 213 396 [a0, a1, a2, a3] (aI (lg_cmp x z).toInt :: r) σ := ev_go f_Law_law_395 rfl
theorem f_Law_law_396 : fetch 213 396 = some (.ifCond .eq 928) := by decide +kernel
theorem e_Law_law_396 (a0 a1 a2 a3 : AV) (σ : aM) (x : Int) (r : List AV) : ev 213 396 [a0, a1, a2, a3] (aI x :: r) σ = if x = 0 then ev 213 1324 [a0, a1, a2, a3] r σ else ev 213 399 [a0, a1, a2, a3] r σ := ev_br f_Law_law_396 rfl bc_eq
theorem f_Law_law_399 : fetch 213 399 = some (.iconst 0) := by decide +kernel
theorem e_Law_law_399 (a0 a1 a2 a3 : AV) (σ : aM) (r : List AV)  : ev 213 399 [a0, a1, a2, a3] (r) σ = ev 213 400 [a0, a1, a2, a3] (aI 0 :: r) σ := ev_go f_Law_law_399 rfl
theorem f_Law_law_400 : fetch 213 400 = some (.ireturn) := by decide +kernel
theorem e_Law_law_400 (a0 a1 a2 a3 : AV) (σ : aM) (x : Int) (h : x = 0 ∨ x = 1) : ev 213 400 [a0, a1, a2, a3] [aI x] σ = some ((some (aI x)), σ) := ev_rB f_Law_law_400 rfl h
theorem f_Law_law_401 : fetch 213 401 = some (.aload_n 1) := by decide +kernel
theorem e_Law_law_401 (a0 a2 a3 : AV) (σ : aM) (l1 : Option (Nat × Int)) (r : List AV)  : ev 213 401 [a0, aQ l1, a2, a3] (r) σ = ev 213 402 [a0, aQ l1, a2, a3] (aQ l1 :: r) σ := ev_go f_Law_law_401 rfl
theorem f_Law_law_402 : fetch 213 402 = some (.aload_n 0) := by decide +kernel
theorem e_Law_law_402 (a1 a2 a3 : AV) (σ : aM) (l0 : Option (Nat × Int)) (r : List AV)  : ev 213 402 [aQ l0, a1, a2, a3] (r) σ = ev 213 403 [aQ l0, a1, a2, a3] (aQ l0 :: r) σ := ev_go f_Law_law_402 rfl
theorem f_Law_law_403 : fetch 213 403 = some (.iload_n 3) := by decide +kernel
theorem e_Law_law_403 (a0 a1 a2 : AV) (σ : aM) (l3 : Int) (r : List AV)  : ev 213 403 [a0, a1, a2, aI l3] (r) σ = ev 213 404 [a0, a1, a2, aI l3] (aI l3 :: r) σ := ev_go f_Law_law_403 rfl
theorem f_Law_law_404 : fetch 213 404 = some (.iconst 1) := by decide +kernel
theorem e_Law_law_404 (a0 a1 a2 a3 : AV) (σ : aM) (r : List AV)  : ev 213 404 [a0, a1, a2, a3] (r) σ = ev 213 405 [a0, a1, a2, a3] (aI 1 :: r) σ := ev_go f_Law_law_404 rfl
theorem f_Law_law_405 : fetch 213 405 = some (.iadd) := by decide +kernel
theorem e_Law_law_405 (a0 a1 a2 a3 : AV) (σ : aM) (x z : Int) (r : List AV)  : ev 213 405 [a0, a1, a2, a3] (aI z :: aI x :: r) σ = ev 213 406 [a0, a1, a2, a3] (aI (wr (x + z)) :: r) σ := ev_go f_Law_law_405 rfl
theorem f_Law_law_406 : fetch 213 406 = some (.iaload) := by decide +kernel
theorem e_Law_law_406 (a0 a1 a2 a3 : AV) (σ : aM) (x : Int) (r : List AV) (h : 0 ≤ x ∧ x < gI σ 34 0 (-1)) : ev 213 406 [a0, a1, a2, a3] (aI x :: aR 34 0 :: r) σ = ev 213 407 [a0, a1, a2, a3] (aI (gI σ 34 0 x) :: r) σ := ev_ldS f_Law_law_406 rfl h
theorem f_Law_law_407 : fetch 213 407 = some (.aload_n 0) := by decide +kernel
theorem e_Law_law_407 (a1 a2 a3 : AV) (σ : aM) (l0 : Option (Nat × Int)) (r : List AV)  : ev 213 407 [aQ l0, a1, a2, a3] (r) σ = ev 213 408 [aQ l0, a1, a2, a3] (aQ l0 :: r) σ := ev_go f_Law_law_407 rfl
theorem f_Law_law_408 : fetch 213 408 = some (.iload_n 3) := by decide +kernel
theorem e_Law_law_408 (a0 a1 a2 : AV) (σ : aM) (l3 : Int) (r : List AV)  : ev 213 408 [a0, a1, a2, aI l3] (r) σ = ev 213 409 [a0, a1, a2, aI l3] (aI l3 :: r) σ := ev_go f_Law_law_408 rfl
theorem f_Law_law_409 : fetch 213 409 = some (.iconst 2) := by decide +kernel
theorem e_Law_law_409 (a0 a1 a2 a3 : AV) (σ : aM) (r : List AV)  : ev 213 409 [a0, a1, a2, a3] (r) σ = ev 213 410 [a0, a1, a2, a3] (aI 2 :: r) σ := ev_go f_Law_law_409 rfl
theorem f_Law_law_410 : fetch 213 410 = some (.iadd) := by decide +kernel
theorem e_Law_law_410 (a0 a1 a2 a3 : AV) (σ : aM) (x z : Int) (r : List AV)  : ev 213 410 [a0, a1, a2, a3] (aI z :: aI x :: r) σ = ev 213 411 [a0, a1, a2, a3] (aI (wr (x + z)) :: r) σ := ev_go f_Law_law_410 rfl
theorem f_Law_law_411 : fetch 213 411 = some (.iaload) := by decide +kernel
theorem e_Law_law_411 (a0 a1 a2 a3 : AV) (σ : aM) (x : Int) (r : List AV) (h : 0 ≤ x ∧ x < gI σ 34 0 (-1)) : ev 213 411 [a0, a1, a2, a3] (aI x :: aR 34 0 :: r) σ = ev 213 412 [a0, a1, a2, a3] (aI (gI σ 34 0 x) :: r) σ := ev_ldS f_Law_law_411 rfl h
theorem f_Law_law_412 : fetch 213 412 = some (.invokevirtual 35) := by decide +kernel
theorem e_Law_law_412 (a0 a1 a2 a3 : AV) (σ : aM) (s0 : Int) (s1 : Int) (s2 : Int) : ev 213 412 [a0, a1, a2, a3] [aI s2, aI s1, aR 0 s0] σ = evK 213 415 [a0, a1, a2, a3] [] (ev 82 0 [aR 0 s0, aI s1, aI s2] [] σ) := ev_call f_Law_law_412 rfl rfl
theorem f_Law_law_415 : fetch 213 415 = some (.aload_n 2) := by decide +kernel
theorem e_Law_law_415 (a0 a1 a3 : AV) (σ : aM) (l2 : Option (Nat × Int)) (r : List AV)  : ev 213 415 [a0, a1, aQ l2, a3] (r) σ = ev 213 416 [a0, a1, aQ l2, a3] (aQ l2 :: r) σ := ev_go f_Law_law_415 rfl
theorem f_Law_law_416 : fetch 213 416 = some (.aload_n 0) := by decide +kernel
theorem e_Law_law_416 (a1 a2 a3 : AV) (σ : aM) (l0 : Option (Nat × Int)) (r : List AV)  : ev 213 416 [aQ l0, a1, a2, a3] (r) σ = ev 213 417 [aQ l0, a1, a2, a3] (aQ l0 :: r) σ := ev_go f_Law_law_416 rfl
theorem f_Law_law_417 : fetch 213 417 = some (.iload_n 3) := by decide +kernel
theorem e_Law_law_417 (a0 a1 a2 : AV) (σ : aM) (l3 : Int) (r : List AV)  : ev 213 417 [a0, a1, a2, aI l3] (r) σ = ev 213 418 [a0, a1, a2, aI l3] (aI l3 :: r) σ := ev_go f_Law_law_417 rfl
theorem f_Law_law_418 : fetch 213 418 = some (.iconst 1) := by decide +kernel
theorem e_Law_law_418 (a0 a1 a2 a3 : AV) (σ : aM) (r : List AV)  : ev 213 418 [a0, a1, a2, a3] (r) σ = ev 213 419 [a0, a1, a2, a3] (aI 1 :: r) σ := ev_go f_Law_law_418 rfl
theorem f_Law_law_419 : fetch 213 419 = some (.iadd) := by decide +kernel
theorem e_Law_law_419 (a0 a1 a2 a3 : AV) (σ : aM) (x z : Int) (r : List AV)  : ev 213 419 [a0, a1, a2, a3] (aI z :: aI x :: r) σ = ev 213 420 [a0, a1, a2, a3] (aI (wr (x + z)) :: r) σ := ev_go f_Law_law_419 rfl
theorem f_Law_law_420 : fetch 213 420 = some (.iaload) := by decide +kernel
theorem e_Law_law_420 (a0 a1 a2 a3 : AV) (σ : aM) (x : Int) (r : List AV) (h : 0 ≤ x ∧ x < gI σ 34 0 (-1)) : ev 213 420 [a0, a1, a2, a3] (aI x :: aR 34 0 :: r) σ = ev 213 421 [a0, a1, a2, a3] (aI (gI σ 34 0 x) :: r) σ := ev_ldS f_Law_law_420 rfl h
theorem f_Law_law_421 : fetch 213 421 = some (.aload_n 0) := by decide +kernel
theorem e_Law_law_421 (a1 a2 a3 : AV) (σ : aM) (l0 : Option (Nat × Int)) (r : List AV)  : ev 213 421 [aQ l0, a1, a2, a3] (r) σ = ev 213 422 [aQ l0, a1, a2, a3] (aQ l0 :: r) σ := ev_go f_Law_law_421 rfl
theorem f_Law_law_422 : fetch 213 422 = some (.iload_n 3) := by decide +kernel
theorem e_Law_law_422 (a0 a1 a2 : AV) (σ : aM) (l3 : Int) (r : List AV)  : ev 213 422 [a0, a1, a2, aI l3] (r) σ = ev 213 423 [a0, a1, a2, aI l3] (aI l3 :: r) σ := ev_go f_Law_law_422 rfl
theorem f_Law_law_423 : fetch 213 423 = some (.iconst 2) := by decide +kernel
theorem e_Law_law_423 (a0 a1 a2 a3 : AV) (σ : aM) (r : List AV)  : ev 213 423 [a0, a1, a2, a3] (r) σ = ev 213 424 [a0, a1, a2, a3] (aI 2 :: r) σ := ev_go f_Law_law_423 rfl
theorem f_Law_law_424 : fetch 213 424 = some (.iadd) := by decide +kernel
theorem e_Law_law_424 (a0 a1 a2 a3 : AV) (σ : aM) (x z : Int) (r : List AV)  : ev 213 424 [a0, a1, a2, a3] (aI z :: aI x :: r) σ = ev 213 425 [a0, a1, a2, a3] (aI (wr (x + z)) :: r) σ := ev_go f_Law_law_424 rfl
theorem f_Law_law_425 : fetch 213 425 = some (.iaload) := by decide +kernel
theorem e_Law_law_425 (a0 a1 a2 a3 : AV) (σ : aM) (x : Int) (r : List AV) (h : 0 ≤ x ∧ x < gI σ 34 0 (-1)) : ev 213 425 [a0, a1, a2, a3] (aI x :: aR 34 0 :: r) σ = ev 213 426 [a0, a1, a2, a3] (aI (gI σ 34 0 x) :: r) σ := ev_ldS f_Law_law_425 rfl h
theorem f_Law_law_426 : fetch 213 426 = some (.invokevirtual 39) := by decide +kernel
theorem e_Law_law_426 (a0 a1 a2 a3 : AV) (σ : aM) (s0 : Int) (s1 : Int) (s2 : Int) (s3 : Int) : ev 213 426 [a0, a1, a2, a3] [aI s3, aI s2, aR 25 s1, aI s0] σ = evK 213 429 [a0, a1, a2, a3] [aI s0] (ev 137 0 [aR 25 s1, aI s2, aI s3] [] σ) := ev_call f_Law_law_426 rfl rfl
theorem f_Law_law_429 : fetch 213 429 = some (.if_icmp .eq 895) := by decide +kernel
theorem e_Law_law_429 (a0 a1 a2 a3 : AV) (σ : aM) (x z : Int) (r : List AV) : ev 213 429 [a0, a1, a2, a3] (aI z :: aI x :: r) σ = if x = z then ev 213 1324 [a0, a1, a2, a3] r σ else ev 213 432 [a0, a1, a2, a3] r σ := ev_br f_Law_law_429 rfl bc_eq
theorem f_Law_law_432 : fetch 213 432 = some (.iconst 0) := by decide +kernel
theorem e_Law_law_432 (a0 a1 a2 a3 : AV) (σ : aM) (r : List AV)  : ev 213 432 [a0, a1, a2, a3] (r) σ = ev 213 433 [a0, a1, a2, a3] (aI 0 :: r) σ := ev_go f_Law_law_432 rfl
theorem f_Law_law_433 : fetch 213 433 = some (.ireturn) := by decide +kernel
theorem e_Law_law_433 (a0 a1 a2 a3 : AV) (σ : aM) (x : Int) (h : x = 0 ∨ x = 1) : ev 213 433 [a0, a1, a2, a3] [aI x] σ = some ((some (aI x)), σ) := ev_rB f_Law_law_433 rfl h
theorem f_Law_law_434 : fetch 213 434 = some (.aload_n 1) := by decide +kernel
theorem e_Law_law_434 (a0 a2 a3 : AV) (σ : aM) (l1 : Option (Nat × Int)) (r : List AV)  : ev 213 434 [a0, aQ l1, a2, a3] (r) σ = ev 213 435 [a0, aQ l1, a2, a3] (aQ l1 :: r) σ := ev_go f_Law_law_434 rfl
theorem f_Law_law_435 : fetch 213 435 = some (.aload_n 0) := by decide +kernel
theorem e_Law_law_435 (a1 a2 a3 : AV) (σ : aM) (l0 : Option (Nat × Int)) (r : List AV)  : ev 213 435 [aQ l0, a1, a2, a3] (r) σ = ev 213 436 [aQ l0, a1, a2, a3] (aQ l0 :: r) σ := ev_go f_Law_law_435 rfl
theorem f_Law_law_436 : fetch 213 436 = some (.iload_n 3) := by decide +kernel
theorem e_Law_law_436 (a0 a1 a2 : AV) (σ : aM) (l3 : Int) (r : List AV)  : ev 213 436 [a0, a1, a2, aI l3] (r) σ = ev 213 437 [a0, a1, a2, aI l3] (aI l3 :: r) σ := ev_go f_Law_law_436 rfl
theorem f_Law_law_437 : fetch 213 437 = some (.iconst 1) := by decide +kernel
theorem e_Law_law_437 (a0 a1 a2 a3 : AV) (σ : aM) (r : List AV)  : ev 213 437 [a0, a1, a2, a3] (r) σ = ev 213 438 [a0, a1, a2, a3] (aI 1 :: r) σ := ev_go f_Law_law_437 rfl
theorem f_Law_law_438 : fetch 213 438 = some (.iadd) := by decide +kernel
theorem e_Law_law_438 (a0 a1 a2 a3 : AV) (σ : aM) (x z : Int) (r : List AV)  : ev 213 438 [a0, a1, a2, a3] (aI z :: aI x :: r) σ = ev 213 439 [a0, a1, a2, a3] (aI (wr (x + z)) :: r) σ := ev_go f_Law_law_438 rfl
theorem f_Law_law_439 : fetch 213 439 = some (.iaload) := by decide +kernel
theorem e_Law_law_439 (a0 a1 a2 a3 : AV) (σ : aM) (x : Int) (r : List AV) (h : 0 ≤ x ∧ x < gI σ 34 0 (-1)) : ev 213 439 [a0, a1, a2, a3] (aI x :: aR 34 0 :: r) σ = ev 213 440 [a0, a1, a2, a3] (aI (gI σ 34 0 x) :: r) σ := ev_ldS f_Law_law_439 rfl h
theorem f_Law_law_440 : fetch 213 440 = some (.invokevirtual 40) := by decide +kernel
theorem e_Law_law_440 (a0 a1 a2 a3 : AV) (σ : aM) (s0 : Int) (s1 : Int) : ev 213 440 [a0, a1, a2, a3] [aI s1, aR 0 s0] σ = evK 213 443 [a0, a1, a2, a3] [] (ev 83 0 [aR 0 s0, aI s1, aU] [] σ) := ev_call f_Law_law_440 rfl rfl
theorem f_Law_law_443 : fetch 213 443 = some (.aload_n 2) := by decide +kernel
theorem e_Law_law_443 (a0 a1 a3 : AV) (σ : aM) (l2 : Option (Nat × Int)) (r : List AV)  : ev 213 443 [a0, a1, aQ l2, a3] (r) σ = ev 213 444 [a0, a1, aQ l2, a3] (aQ l2 :: r) σ := ev_go f_Law_law_443 rfl
theorem f_Law_law_444 : fetch 213 444 = some (.aload_n 0) := by decide +kernel
theorem e_Law_law_444 (a1 a2 a3 : AV) (σ : aM) (l0 : Option (Nat × Int)) (r : List AV)  : ev 213 444 [aQ l0, a1, a2, a3] (r) σ = ev 213 445 [aQ l0, a1, a2, a3] (aQ l0 :: r) σ := ev_go f_Law_law_444 rfl
theorem f_Law_law_445 : fetch 213 445 = some (.iload_n 3) := by decide +kernel
theorem e_Law_law_445 (a0 a1 a2 : AV) (σ : aM) (l3 : Int) (r : List AV)  : ev 213 445 [a0, a1, a2, aI l3] (r) σ = ev 213 446 [a0, a1, a2, aI l3] (aI l3 :: r) σ := ev_go f_Law_law_445 rfl
theorem f_Law_law_446 : fetch 213 446 = some (.iconst 1) := by decide +kernel
theorem e_Law_law_446 (a0 a1 a2 a3 : AV) (σ : aM) (r : List AV)  : ev 213 446 [a0, a1, a2, a3] (r) σ = ev 213 447 [a0, a1, a2, a3] (aI 1 :: r) σ := ev_go f_Law_law_446 rfl
theorem f_Law_law_447 : fetch 213 447 = some (.iadd) := by decide +kernel
theorem e_Law_law_447 (a0 a1 a2 a3 : AV) (σ : aM) (x z : Int) (r : List AV)  : ev 213 447 [a0, a1, a2, a3] (aI z :: aI x :: r) σ = ev 213 448 [a0, a1, a2, a3] (aI (wr (x + z)) :: r) σ := ev_go f_Law_law_447 rfl
theorem f_Law_law_448 : fetch 213 448 = some (.iaload) := by decide +kernel
theorem e_Law_law_448 (a0 a1 a2 a3 : AV) (σ : aM) (x : Int) (r : List AV) (h : 0 ≤ x ∧ x < gI σ 34 0 (-1)) : ev 213 448 [a0, a1, a2, a3] (aI x :: aR 34 0 :: r) σ = ev 213 449 [a0, a1, a2, a3] (aI (gI σ 34 0 x) :: r) σ := ev_ldS f_Law_law_448 rfl h
theorem f_Law_law_449 : fetch 213 449 = some (.invokevirtual 44) := by decide +kernel
theorem e_Law_law_449 (a0 a1 a2 a3 : AV) (σ : aM) (s0 : Int) (s1 : Int) (s2 : Int) : ev 213 449 [a0, a1, a2, a3] [aI s2, aR 25 s1, aI s0] σ = evK 213 452 [a0, a1, a2, a3] [aI s0] (ev 138 0 [aR 25 s1, aI s2] [] σ) := ev_call f_Law_law_449 rfl rfl
theorem f_Law_law_452 : fetch 213 452 = some (.if_icmp .eq 872) := by decide +kernel
theorem e_Law_law_452 (a0 a1 a2 a3 : AV) (σ : aM) (x z : Int) (r : List AV) : ev 213 452 [a0, a1, a2, a3] (aI z :: aI x :: r) σ = if x = z then ev 213 1324 [a0, a1, a2, a3] r σ else ev 213 455 [a0, a1, a2, a3] r σ := ev_br f_Law_law_452 rfl bc_eq
theorem f_Law_law_455 : fetch 213 455 = some (.iconst 0) := by decide +kernel
theorem e_Law_law_455 (a0 a1 a2 a3 : AV) (σ : aM) (r : List AV)  : ev 213 455 [a0, a1, a2, a3] (r) σ = ev 213 456 [a0, a1, a2, a3] (aI 0 :: r) σ := ev_go f_Law_law_455 rfl
theorem f_Law_law_456 : fetch 213 456 = some (.ireturn) := by decide +kernel
theorem e_Law_law_456 (a0 a1 a2 a3 : AV) (σ : aM) (x : Int) (h : x = 0 ∨ x = 1) : ev 213 456 [a0, a1, a2, a3] [aI x] σ = some ((some (aI x)), σ) := ev_rB f_Law_law_456 rfl h
theorem f_Law_law_457 : fetch 213 457 = some (.aload_n 1) := by decide +kernel
theorem e_Law_law_457 (a0 a2 a3 : AV) (σ : aM) (l1 : Option (Nat × Int)) (r : List AV)  : ev 213 457 [a0, aQ l1, a2, a3] (r) σ = ev 213 458 [a0, aQ l1, a2, a3] (aQ l1 :: r) σ := ev_go f_Law_law_457 rfl
theorem f_Law_law_458 : fetch 213 458 = some (.aload_n 0) := by decide +kernel
theorem e_Law_law_458 (a1 a2 a3 : AV) (σ : aM) (l0 : Option (Nat × Int)) (r : List AV)  : ev 213 458 [aQ l0, a1, a2, a3] (r) σ = ev 213 459 [aQ l0, a1, a2, a3] (aQ l0 :: r) σ := ev_go f_Law_law_458 rfl
theorem f_Law_law_459 : fetch 213 459 = some (.iload_n 3) := by decide +kernel
theorem e_Law_law_459 (a0 a1 a2 : AV) (σ : aM) (l3 : Int) (r : List AV)  : ev 213 459 [a0, a1, a2, aI l3] (r) σ = ev 213 460 [a0, a1, a2, aI l3] (aI l3 :: r) σ := ev_go f_Law_law_459 rfl
theorem f_Law_law_460 : fetch 213 460 = some (.iconst 1) := by decide +kernel
theorem e_Law_law_460 (a0 a1 a2 a3 : AV) (σ : aM) (r : List AV)  : ev 213 460 [a0, a1, a2, a3] (r) σ = ev 213 461 [a0, a1, a2, a3] (aI 1 :: r) σ := ev_go f_Law_law_460 rfl
theorem f_Law_law_461 : fetch 213 461 = some (.iadd) := by decide +kernel
theorem e_Law_law_461 (a0 a1 a2 a3 : AV) (σ : aM) (x z : Int) (r : List AV)  : ev 213 461 [a0, a1, a2, a3] (aI z :: aI x :: r) σ = ev 213 462 [a0, a1, a2, a3] (aI (wr (x + z)) :: r) σ := ev_go f_Law_law_461 rfl
theorem f_Law_law_462 : fetch 213 462 = some (.iaload) := by decide +kernel
theorem e_Law_law_462 (a0 a1 a2 a3 : AV) (σ : aM) (x : Int) (r : List AV) (h : 0 ≤ x ∧ x < gI σ 34 0 (-1)) : ev 213 462 [a0, a1, a2, a3] (aI x :: aR 34 0 :: r) σ = ev 213 463 [a0, a1, a2, a3] (aI (gI σ 34 0 x) :: r) σ := ev_ldS f_Law_law_462 rfl h
theorem f_Law_law_463 : fetch 213 463 = some (.aload_n 0) := by decide +kernel
theorem e_Law_law_463 (a1 a2 a3 : AV) (σ : aM) (l0 : Option (Nat × Int)) (r : List AV)  : ev 213 463 [aQ l0, a1, a2, a3] (r) σ = ev 213 464 [aQ l0, a1, a2, a3] (aQ l0 :: r) σ := ev_go f_Law_law_463 rfl
theorem f_Law_law_464 : fetch 213 464 = some (.iload_n 3) := by decide +kernel
theorem e_Law_law_464 (a0 a1 a2 : AV) (σ : aM) (l3 : Int) (r : List AV)  : ev 213 464 [a0, a1, a2, aI l3] (r) σ = ev 213 465 [a0, a1, a2, aI l3] (aI l3 :: r) σ := ev_go f_Law_law_464 rfl
theorem f_Law_law_465 : fetch 213 465 = some (.iconst 2) := by decide +kernel
theorem e_Law_law_465 (a0 a1 a2 a3 : AV) (σ : aM) (r : List AV)  : ev 213 465 [a0, a1, a2, a3] (r) σ = ev 213 466 [a0, a1, a2, a3] (aI 2 :: r) σ := ev_go f_Law_law_465 rfl
theorem f_Law_law_466 : fetch 213 466 = some (.iadd) := by decide +kernel
theorem e_Law_law_466 (a0 a1 a2 a3 : AV) (σ : aM) (x z : Int) (r : List AV)  : ev 213 466 [a0, a1, a2, a3] (aI z :: aI x :: r) σ = ev 213 467 [a0, a1, a2, a3] (aI (wr (x + z)) :: r) σ := ev_go f_Law_law_466 rfl
theorem f_Law_law_467 : fetch 213 467 = some (.iaload) := by decide +kernel
theorem e_Law_law_467 (a0 a1 a2 a3 : AV) (σ : aM) (x : Int) (r : List AV) (h : 0 ≤ x ∧ x < gI σ 34 0 (-1)) : ev 213 467 [a0, a1, a2, a3] (aI x :: aR 34 0 :: r) σ = ev 213 468 [a0, a1, a2, a3] (aI (gI σ 34 0 x) :: r) σ := ev_ldS f_Law_law_467 rfl h
theorem f_Law_law_468 : fetch 213 468 = some (.invokevirtual 45) := by decide +kernel
theorem e_Law_law_468 (a0 a1 a2 a3 : AV) (σ : aM) (s0 : Int) (s1 : Int) (s2 : Int) : ev 213 468 [a0, a1, a2, a3] [aI s2, aI s1, aR 0 s0] σ = evK 213 471 [a0, a1, a2, a3] [] (ev 84 0 [aR 0 s0, aI s1, aI s2, aU] [] σ) := ev_call f_Law_law_468 rfl rfl
theorem f_Law_law_471 : fetch 213 471 = some (.aload_n 2) := by decide +kernel
theorem e_Law_law_471 (a0 a1 a3 : AV) (σ : aM) (l2 : Option (Nat × Int)) (r : List AV)  : ev 213 471 [a0, a1, aQ l2, a3] (r) σ = ev 213 472 [a0, a1, aQ l2, a3] (aQ l2 :: r) σ := ev_go f_Law_law_471 rfl
theorem f_Law_law_472 : fetch 213 472 = some (.aload_n 0) := by decide +kernel
theorem e_Law_law_472 (a1 a2 a3 : AV) (σ : aM) (l0 : Option (Nat × Int)) (r : List AV)  : ev 213 472 [aQ l0, a1, a2, a3] (r) σ = ev 213 473 [aQ l0, a1, a2, a3] (aQ l0 :: r) σ := ev_go f_Law_law_472 rfl
theorem f_Law_law_473 : fetch 213 473 = some (.iload_n 3) := by decide +kernel
theorem e_Law_law_473 (a0 a1 a2 : AV) (σ : aM) (l3 : Int) (r : List AV)  : ev 213 473 [a0, a1, a2, aI l3] (r) σ = ev 213 474 [a0, a1, a2, aI l3] (aI l3 :: r) σ := ev_go f_Law_law_473 rfl
theorem f_Law_law_474 : fetch 213 474 = some (.iconst 1) := by decide +kernel
theorem e_Law_law_474 (a0 a1 a2 a3 : AV) (σ : aM) (r : List AV)  : ev 213 474 [a0, a1, a2, a3] (r) σ = ev 213 475 [a0, a1, a2, a3] (aI 1 :: r) σ := ev_go f_Law_law_474 rfl
theorem f_Law_law_475 : fetch 213 475 = some (.iadd) := by decide +kernel
theorem e_Law_law_475 (a0 a1 a2 a3 : AV) (σ : aM) (x z : Int) (r : List AV)  : ev 213 475 [a0, a1, a2, a3] (aI z :: aI x :: r) σ = ev 213 476 [a0, a1, a2, a3] (aI (wr (x + z)) :: r) σ := ev_go f_Law_law_475 rfl
theorem f_Law_law_476 : fetch 213 476 = some (.iaload) := by decide +kernel
theorem e_Law_law_476 (a0 a1 a2 a3 : AV) (σ : aM) (x : Int) (r : List AV) (h : 0 ≤ x ∧ x < gI σ 34 0 (-1)) : ev 213 476 [a0, a1, a2, a3] (aI x :: aR 34 0 :: r) σ = ev 213 477 [a0, a1, a2, a3] (aI (gI σ 34 0 x) :: r) σ := ev_ldS f_Law_law_476 rfl h
theorem f_Law_law_477 : fetch 213 477 = some (.aload_n 0) := by decide +kernel
theorem e_Law_law_477 (a1 a2 a3 : AV) (σ : aM) (l0 : Option (Nat × Int)) (r : List AV)  : ev 213 477 [aQ l0, a1, a2, a3] (r) σ = ev 213 478 [aQ l0, a1, a2, a3] (aQ l0 :: r) σ := ev_go f_Law_law_477 rfl
theorem f_Law_law_478 : fetch 213 478 = some (.iload_n 3) := by decide +kernel
theorem e_Law_law_478 (a0 a1 a2 : AV) (σ : aM) (l3 : Int) (r : List AV)  : ev 213 478 [a0, a1, a2, aI l3] (r) σ = ev 213 479 [a0, a1, a2, aI l3] (aI l3 :: r) σ := ev_go f_Law_law_478 rfl
theorem f_Law_law_479 : fetch 213 479 = some (.iconst 2) := by decide +kernel
theorem e_Law_law_479 (a0 a1 a2 a3 : AV) (σ : aM) (r : List AV)  : ev 213 479 [a0, a1, a2, a3] (r) σ = ev 213 480 [a0, a1, a2, a3] (aI 2 :: r) σ := ev_go f_Law_law_479 rfl
theorem f_Law_law_480 : fetch 213 480 = some (.iadd) := by decide +kernel
theorem e_Law_law_480 (a0 a1 a2 a3 : AV) (σ : aM) (x z : Int) (r : List AV)  : ev 213 480 [a0, a1, a2, a3] (aI z :: aI x :: r) σ = ev 213 481 [a0, a1, a2, a3] (aI (wr (x + z)) :: r) σ := ev_go f_Law_law_480 rfl
theorem f_Law_law_481 : fetch 213 481 = some (.iaload) := by decide +kernel
theorem e_Law_law_481 (a0 a1 a2 a3 : AV) (σ : aM) (x : Int) (r : List AV) (h : 0 ≤ x ∧ x < gI σ 34 0 (-1)) : ev 213 481 [a0, a1, a2, a3] (aI x :: aR 34 0 :: r) σ = ev 213 482 [a0, a1, a2, a3] (aI (gI σ 34 0 x) :: r) σ := ev_ldS f_Law_law_481 rfl h
theorem f_Law_law_482 : fetch 213 482 = some (.invokevirtual 48) := by decide +kernel
theorem e_Law_law_482 (a0 a1 a2 a3 : AV) (σ : aM) (s0 : Int) (s1 : Int) (s2 : Int) (s3 : Int) : ev 213 482 [a0, a1, a2, a3] [aI s3, aI s2, aR 25 s1, aI s0] σ = evK 213 485 [a0, a1, a2, a3] [aI s0] (ev 192 0 [aR 25 s1, aI s2, aI s3, aU, aU, aU] [] σ) := ev_call f_Law_law_482 rfl rfl
theorem f_Law_law_485 : fetch 213 485 = some (.if_icmp .eq 839) := by decide +kernel
theorem e_Law_law_485 (a0 a1 a2 a3 : AV) (σ : aM) (x z : Int) (r : List AV) : ev 213 485 [a0, a1, a2, a3] (aI z :: aI x :: r) σ = if x = z then ev 213 1324 [a0, a1, a2, a3] r σ else ev 213 488 [a0, a1, a2, a3] r σ := ev_br f_Law_law_485 rfl bc_eq
theorem f_Law_law_488 : fetch 213 488 = some (.iconst 0) := by decide +kernel
theorem e_Law_law_488 (a0 a1 a2 a3 : AV) (σ : aM) (r : List AV)  : ev 213 488 [a0, a1, a2, a3] (r) σ = ev 213 489 [a0, a1, a2, a3] (aI 0 :: r) σ := ev_go f_Law_law_488 rfl
theorem f_Law_law_489 : fetch 213 489 = some (.ireturn) := by decide +kernel
theorem e_Law_law_489 (a0 a1 a2 a3 : AV) (σ : aM) (x : Int) (h : x = 0 ∨ x = 1) : ev 213 489 [a0, a1, a2, a3] [aI x] σ = some ((some (aI x)), σ) := ev_rB f_Law_law_489 rfl h
theorem f_Law_law_490 : fetch 213 490 = some (.aload_n 1) := by decide +kernel
theorem e_Law_law_490 (a0 a2 a3 : AV) (σ : aM) (l1 : Option (Nat × Int)) (r : List AV)  : ev 213 490 [a0, aQ l1, a2, a3] (r) σ = ev 213 491 [a0, aQ l1, a2, a3] (aQ l1 :: r) σ := ev_go f_Law_law_490 rfl
theorem f_Law_law_491 : fetch 213 491 = some (.aload_n 0) := by decide +kernel
theorem e_Law_law_491 (a1 a2 a3 : AV) (σ : aM) (l0 : Option (Nat × Int)) (r : List AV)  : ev 213 491 [aQ l0, a1, a2, a3] (r) σ = ev 213 492 [aQ l0, a1, a2, a3] (aQ l0 :: r) σ := ev_go f_Law_law_491 rfl
theorem f_Law_law_492 : fetch 213 492 = some (.iload_n 3) := by decide +kernel
theorem e_Law_law_492 (a0 a1 a2 : AV) (σ : aM) (l3 : Int) (r : List AV)  : ev 213 492 [a0, a1, a2, aI l3] (r) σ = ev 213 493 [a0, a1, a2, aI l3] (aI l3 :: r) σ := ev_go f_Law_law_492 rfl
theorem f_Law_law_493 : fetch 213 493 = some (.iconst 1) := by decide +kernel
theorem e_Law_law_493 (a0 a1 a2 a3 : AV) (σ : aM) (r : List AV)  : ev 213 493 [a0, a1, a2, a3] (r) σ = ev 213 494 [a0, a1, a2, a3] (aI 1 :: r) σ := ev_go f_Law_law_493 rfl
theorem f_Law_law_494 : fetch 213 494 = some (.iadd) := by decide +kernel
theorem e_Law_law_494 (a0 a1 a2 a3 : AV) (σ : aM) (x z : Int) (r : List AV)  : ev 213 494 [a0, a1, a2, a3] (aI z :: aI x :: r) σ = ev 213 495 [a0, a1, a2, a3] (aI (wr (x + z)) :: r) σ := ev_go f_Law_law_494 rfl
theorem f_Law_law_495 : fetch 213 495 = some (.iaload) := by decide +kernel
theorem e_Law_law_495 (a0 a1 a2 a3 : AV) (σ : aM) (x : Int) (r : List AV) (h : 0 ≤ x ∧ x < gI σ 34 0 (-1)) : ev 213 495 [a0, a1, a2, a3] (aI x :: aR 34 0 :: r) σ = ev 213 496 [a0, a1, a2, a3] (aI (gI σ 34 0 x) :: r) σ := ev_ldS f_Law_law_495 rfl h
theorem f_Law_law_496 : fetch 213 496 = some (.aload_n 0) := by decide +kernel
theorem e_Law_law_496 (a1 a2 a3 : AV) (σ : aM) (l0 : Option (Nat × Int)) (r : List AV)  : ev 213 496 [aQ l0, a1, a2, a3] (r) σ = ev 213 497 [aQ l0, a1, a2, a3] (aQ l0 :: r) σ := ev_go f_Law_law_496 rfl
theorem f_Law_law_497 : fetch 213 497 = some (.iload_n 3) := by decide +kernel
theorem e_Law_law_497 (a0 a1 a2 : AV) (σ : aM) (l3 : Int) (r : List AV)  : ev 213 497 [a0, a1, a2, aI l3] (r) σ = ev 213 498 [a0, a1, a2, aI l3] (aI l3 :: r) σ := ev_go f_Law_law_497 rfl
theorem f_Law_law_498 : fetch 213 498 = some (.iconst 2) := by decide +kernel
theorem e_Law_law_498 (a0 a1 a2 a3 : AV) (σ : aM) (r : List AV)  : ev 213 498 [a0, a1, a2, a3] (r) σ = ev 213 499 [a0, a1, a2, a3] (aI 2 :: r) σ := ev_go f_Law_law_498 rfl
theorem f_Law_law_499 : fetch 213 499 = some (.iadd) := by decide +kernel
theorem e_Law_law_499 (a0 a1 a2 a3 : AV) (σ : aM) (x z : Int) (r : List AV)  : ev 213 499 [a0, a1, a2, a3] (aI z :: aI x :: r) σ = ev 213 500 [a0, a1, a2, a3] (aI (wr (x + z)) :: r) σ := ev_go f_Law_law_499 rfl
theorem f_Law_law_500 : fetch 213 500 = some (.iaload) := by decide +kernel
theorem e_Law_law_500 (a0 a1 a2 a3 : AV) (σ : aM) (x : Int) (r : List AV) (h : 0 ≤ x ∧ x < gI σ 34 0 (-1)) : ev 213 500 [a0, a1, a2, a3] (aI x :: aR 34 0 :: r) σ = ev 213 501 [a0, a1, a2, a3] (aI (gI σ 34 0 x) :: r) σ := ev_ldS f_Law_law_500 rfl h
theorem f_Law_law_501 : fetch 213 501 = some (.aload_n 0) := by decide +kernel
theorem e_Law_law_501 (a1 a2 a3 : AV) (σ : aM) (l0 : Option (Nat × Int)) (r : List AV)  : ev 213 501 [aQ l0, a1, a2, a3] (r) σ = ev 213 502 [aQ l0, a1, a2, a3] (aQ l0 :: r) σ := ev_go f_Law_law_501 rfl
theorem f_Law_law_502 : fetch 213 502 = some (.iload_n 3) := by decide +kernel
theorem e_Law_law_502 (a0 a1 a2 : AV) (σ : aM) (l3 : Int) (r : List AV)  : ev 213 502 [a0, a1, a2, aI l3] (r) σ = ev 213 503 [a0, a1, a2, aI l3] (aI l3 :: r) σ := ev_go f_Law_law_502 rfl
theorem f_Law_law_503 : fetch 213 503 = some (.iconst 3) := by decide +kernel
theorem e_Law_law_503 (a0 a1 a2 a3 : AV) (σ : aM) (r : List AV)  : ev 213 503 [a0, a1, a2, a3] (r) σ = ev 213 504 [a0, a1, a2, a3] (aI 3 :: r) σ := ev_go f_Law_law_503 rfl
theorem f_Law_law_504 : fetch 213 504 = some (.iadd) := by decide +kernel
theorem e_Law_law_504 (a0 a1 a2 a3 : AV) (σ : aM) (x z : Int) (r : List AV)  : ev 213 504 [a0, a1, a2, a3] (aI z :: aI x :: r) σ = ev 213 505 [a0, a1, a2, a3] (aI (wr (x + z)) :: r) σ := ev_go f_Law_law_504 rfl
theorem f_Law_law_505 : fetch 213 505 = some (.iaload) := by decide +kernel
theorem e_Law_law_505 (a0 a1 a2 a3 : AV) (σ : aM) (x : Int) (r : List AV) (h : 0 ≤ x ∧ x < gI σ 34 0 (-1)) : ev 213 505 [a0, a1, a2, a3] (aI x :: aR 34 0 :: r) σ = ev 213 506 [a0, a1, a2, a3] (aI (gI σ 34 0 x) :: r) σ := ev_ldS f_Law_law_505 rfl h
theorem f_Law_law_506 : fetch 213 506 = some (.aload_n 0) := by decide +kernel
theorem e_Law_law_506 (a1 a2 a3 : AV) (σ : aM) (l0 : Option (Nat × Int)) (r : List AV)  : ev 213 506 [aQ l0, a1, a2, a3] (r) σ = ev 213 507 [aQ l0, a1, a2, a3] (aQ l0 :: r) σ := ev_go f_Law_law_506 rfl
theorem f_Law_law_507 : fetch 213 507 = some (.iload_n 3) := by decide +kernel
theorem e_Law_law_507 (a0 a1 a2 : AV) (σ : aM) (l3 : Int) (r : List AV)  : ev 213 507 [a0, a1, a2, aI l3] (r) σ = ev 213 508 [a0, a1, a2, aI l3] (aI l3 :: r) σ := ev_go f_Law_law_507 rfl
theorem f_Law_law_508 : fetch 213 508 = some (.iconst 4) := by decide +kernel
theorem e_Law_law_508 (a0 a1 a2 a3 : AV) (σ : aM) (r : List AV)  : ev 213 508 [a0, a1, a2, a3] (r) σ = ev 213 509 [a0, a1, a2, a3] (aI 4 :: r) σ := ev_go f_Law_law_508 rfl
theorem f_Law_law_509 : fetch 213 509 = some (.iadd) := by decide +kernel
theorem e_Law_law_509 (a0 a1 a2 a3 : AV) (σ : aM) (x z : Int) (r : List AV)  : ev 213 509 [a0, a1, a2, a3] (aI z :: aI x :: r) σ = ev 213 510 [a0, a1, a2, a3] (aI (wr (x + z)) :: r) σ := ev_go f_Law_law_509 rfl
theorem f_Law_law_510 : fetch 213 510 = some (.iaload) := by decide +kernel
theorem e_Law_law_510 (a0 a1 a2 a3 : AV) (σ : aM) (x : Int) (r : List AV) (h : 0 ≤ x ∧ x < gI σ 34 0 (-1)) : ev 213 510 [a0, a1, a2, a3] (aI x :: aR 34 0 :: r) σ = ev 213 511 [a0, a1, a2, a3] (aI (gI σ 34 0 x) :: r) σ := ev_ldS f_Law_law_510 rfl h
theorem f_Law_law_511 : fetch 213 511 = some (.aload_n 0) := by decide +kernel
theorem e_Law_law_511 (a1 a2 a3 : AV) (σ : aM) (l0 : Option (Nat × Int)) (r : List AV)  : ev 213 511 [aQ l0, a1, a2, a3] (r) σ = ev 213 512 [aQ l0, a1, a2, a3] (aQ l0 :: r) σ := ev_go f_Law_law_511 rfl
theorem f_Law_law_512 : fetch 213 512 = some (.iload_n 3) := by decide +kernel
theorem e_Law_law_512 (a0 a1 a2 : AV) (σ : aM) (l3 : Int) (r : List AV)  : ev 213 512 [a0, a1, a2, aI l3] (r) σ = ev 213 513 [a0, a1, a2, aI l3] (aI l3 :: r) σ := ev_go f_Law_law_512 rfl
theorem f_Law_law_513 : fetch 213 513 = some (.iconst 5) := by decide +kernel
theorem e_Law_law_513 (a0 a1 a2 a3 : AV) (σ : aM) (r : List AV)  : ev 213 513 [a0, a1, a2, a3] (r) σ = ev 213 514 [a0, a1, a2, a3] (aI 5 :: r) σ := ev_go f_Law_law_513 rfl
theorem f_Law_law_514 : fetch 213 514 = some (.iadd) := by decide +kernel
theorem e_Law_law_514 (a0 a1 a2 a3 : AV) (σ : aM) (x z : Int) (r : List AV)  : ev 213 514 [a0, a1, a2, a3] (aI z :: aI x :: r) σ = ev 213 515 [a0, a1, a2, a3] (aI (wr (x + z)) :: r) σ := ev_go f_Law_law_514 rfl
theorem f_Law_law_515 : fetch 213 515 = some (.iaload) := by decide +kernel
theorem e_Law_law_515 (a0 a1 a2 a3 : AV) (σ : aM) (x : Int) (r : List AV) (h : 0 ≤ x ∧ x < gI σ 34 0 (-1)) : ev 213 515 [a0, a1, a2, a3] (aI x :: aR 34 0 :: r) σ = ev 213 516 [a0, a1, a2, a3] (aI (gI σ 34 0 x) :: r) σ := ev_ldS f_Law_law_515 rfl h
theorem f_Law_law_516 : fetch 213 516 = some (.invokevirtual 49) := by decide +kernel
theorem e_Law_law_516 (a0 a1 a2 a3 : AV) (σ : aM) (s0 : Int) (s1 : Int) (s2 : Int) (s3 : Int) (s4 : Int) (s5 : Int) : ev 213 516 [a0, a1, a2, a3] [aI s5, aI s4, aI s3, aI s2, aI s1, aR 0 s0] σ = evK 213 519 [a0, a1, a2, a3] [] (ev 85 0 [aR 0 s0, aI s1, aI s2, aI s3, aI s4, aI s5, aU, aU] [] σ) := ev_call f_Law_law_516 rfl rfl
theorem f_Law_law_519 : fetch 213 519 = some (.aload_n 2) := by decide +kernel
theorem e_Law_law_519 (a0 a1 a3 : AV) (σ : aM) (l2 : Option (Nat × Int)) (r : List AV)  : ev 213 519 [a0, a1, aQ l2, a3] (r) σ = ev 213 520 [a0, a1, aQ l2, a3] (aQ l2 :: r) σ := ev_go f_Law_law_519 rfl
theorem f_Law_law_520 : fetch 213 520 = some (.aload_n 0) := by decide +kernel
theorem e_Law_law_520 (a1 a2 a3 : AV) (σ : aM) (l0 : Option (Nat × Int)) (r : List AV)  : ev 213 520 [aQ l0, a1, a2, a3] (r) σ = ev 213 521 [aQ l0, a1, a2, a3] (aQ l0 :: r) σ := ev_go f_Law_law_520 rfl
theorem f_Law_law_521 : fetch 213 521 = some (.iload_n 3) := by decide +kernel
theorem e_Law_law_521 (a0 a1 a2 : AV) (σ : aM) (l3 : Int) (r : List AV)  : ev 213 521 [a0, a1, a2, aI l3] (r) σ = ev 213 522 [a0, a1, a2, aI l3] (aI l3 :: r) σ := ev_go f_Law_law_521 rfl
theorem f_Law_law_522 : fetch 213 522 = some (.iconst 1) := by decide +kernel
theorem e_Law_law_522 (a0 a1 a2 a3 : AV) (σ : aM) (r : List AV)  : ev 213 522 [a0, a1, a2, a3] (r) σ = ev 213 523 [a0, a1, a2, a3] (aI 1 :: r) σ := ev_go f_Law_law_522 rfl
theorem f_Law_law_523 : fetch 213 523 = some (.iadd) := by decide +kernel
theorem e_Law_law_523 (a0 a1 a2 a3 : AV) (σ : aM) (x z : Int) (r : List AV)  : ev 213 523 [a0, a1, a2, a3] (aI z :: aI x :: r) σ = ev 213 524 [a0, a1, a2, a3] (aI (wr (x + z)) :: r) σ := ev_go f_Law_law_523 rfl
theorem f_Law_law_524 : fetch 213 524 = some (.iaload) := by decide +kernel
theorem e_Law_law_524 (a0 a1 a2 a3 : AV) (σ : aM) (x : Int) (r : List AV) (h : 0 ≤ x ∧ x < gI σ 34 0 (-1)) : ev 213 524 [a0, a1, a2, a3] (aI x :: aR 34 0 :: r) σ = ev 213 525 [a0, a1, a2, a3] (aI (gI σ 34 0 x) :: r) σ := ev_ldS f_Law_law_524 rfl h
theorem f_Law_law_525 : fetch 213 525 = some (.aload_n 0) := by decide +kernel
theorem e_Law_law_525 (a1 a2 a3 : AV) (σ : aM) (l0 : Option (Nat × Int)) (r : List AV)  : ev 213 525 [aQ l0, a1, a2, a3] (r) σ = ev 213 526 [aQ l0, a1, a2, a3] (aQ l0 :: r) σ := ev_go f_Law_law_525 rfl
theorem f_Law_law_526 : fetch 213 526 = some (.iload_n 3) := by decide +kernel
theorem e_Law_law_526 (a0 a1 a2 : AV) (σ : aM) (l3 : Int) (r : List AV)  : ev 213 526 [a0, a1, a2, aI l3] (r) σ = ev 213 527 [a0, a1, a2, aI l3] (aI l3 :: r) σ := ev_go f_Law_law_526 rfl
theorem f_Law_law_527 : fetch 213 527 = some (.iconst 2) := by decide +kernel
theorem e_Law_law_527 (a0 a1 a2 a3 : AV) (σ : aM) (r : List AV)  : ev 213 527 [a0, a1, a2, a3] (r) σ = ev 213 528 [a0, a1, a2, a3] (aI 2 :: r) σ := ev_go f_Law_law_527 rfl
theorem f_Law_law_528 : fetch 213 528 = some (.iadd) := by decide +kernel
theorem e_Law_law_528 (a0 a1 a2 a3 : AV) (σ : aM) (x z : Int) (r : List AV)  : ev 213 528 [a0, a1, a2, a3] (aI z :: aI x :: r) σ = ev 213 529 [a0, a1, a2, a3] (aI (wr (x + z)) :: r) σ := ev_go f_Law_law_528 rfl
theorem f_Law_law_529 : fetch 213 529 = some (.iaload) := by decide +kernel
theorem e_Law_law_529 (a0 a1 a2 a3 : AV) (σ : aM) (x : Int) (r : List AV) (h : 0 ≤ x ∧ x < gI σ 34 0 (-1)) : ev 213 529 [a0, a1, a2, a3] (aI x :: aR 34 0 :: r) σ = ev 213 530 [a0, a1, a2, a3] (aI (gI σ 34 0 x) :: r) σ := ev_ldS f_Law_law_529 rfl h
theorem f_Law_law_530 : fetch 213 530 = some (.aload_n 0) := by decide +kernel
theorem e_Law_law_530 (a1 a2 a3 : AV) (σ : aM) (l0 : Option (Nat × Int)) (r : List AV)  : ev 213 530 [aQ l0, a1, a2, a3] (r) σ = ev 213 531 [aQ l0, a1, a2, a3] (aQ l0 :: r) σ := ev_go f_Law_law_530 rfl
theorem f_Law_law_531 : fetch 213 531 = some (.iload_n 3) := by decide +kernel
theorem e_Law_law_531 (a0 a1 a2 : AV) (σ : aM) (l3 : Int) (r : List AV)  : ev 213 531 [a0, a1, a2, aI l3] (r) σ = ev 213 532 [a0, a1, a2, aI l3] (aI l3 :: r) σ := ev_go f_Law_law_531 rfl
theorem f_Law_law_532 : fetch 213 532 = some (.iconst 3) := by decide +kernel
theorem e_Law_law_532 (a0 a1 a2 a3 : AV) (σ : aM) (r : List AV)  : ev 213 532 [a0, a1, a2, a3] (r) σ = ev 213 533 [a0, a1, a2, a3] (aI 3 :: r) σ := ev_go f_Law_law_532 rfl
theorem f_Law_law_533 : fetch 213 533 = some (.iadd) := by decide +kernel
theorem e_Law_law_533 (a0 a1 a2 a3 : AV) (σ : aM) (x z : Int) (r : List AV)  : ev 213 533 [a0, a1, a2, a3] (aI z :: aI x :: r) σ = ev 213 534 [a0, a1, a2, a3] (aI (wr (x + z)) :: r) σ := ev_go f_Law_law_533 rfl
theorem f_Law_law_534 : fetch 213 534 = some (.iaload) := by decide +kernel
theorem e_Law_law_534 (a0 a1 a2 a3 : AV) (σ : aM) (x : Int) (r : List AV) (h : 0 ≤ x ∧ x < gI σ 34 0 (-1)) : ev 213 534 [a0, a1, a2, a3] (aI x :: aR 34 0 :: r) σ = ev 213 535 [a0, a1, a2, a3] (aI (gI σ 34 0 x) :: r) σ := ev_ldS f_Law_law_534 rfl h
theorem f_Law_law_535 : fetch 213 535 = some (.aload_n 0) := by decide +kernel
theorem e_Law_law_535 (a1 a2 a3 : AV) (σ : aM) (l0 : Option (Nat × Int)) (r : List AV)  : ev 213 535 [aQ l0, a1, a2, a3] (r) σ = ev 213 536 [aQ l0, a1, a2, a3] (aQ l0 :: r) σ := ev_go f_Law_law_535 rfl
theorem f_Law_law_536 : fetch 213 536 = some (.iload_n 3) := by decide +kernel
theorem e_Law_law_536 (a0 a1 a2 : AV) (σ : aM) (l3 : Int) (r : List AV)  : ev 213 536 [a0, a1, a2, aI l3] (r) σ = ev 213 537 [a0, a1, a2, aI l3] (aI l3 :: r) σ := ev_go f_Law_law_536 rfl
theorem f_Law_law_537 : fetch 213 537 = some (.iconst 4) := by decide +kernel
theorem e_Law_law_537 (a0 a1 a2 a3 : AV) (σ : aM) (r : List AV)  : ev 213 537 [a0, a1, a2, a3] (r) σ = ev 213 538 [a0, a1, a2, a3] (aI 4 :: r) σ := ev_go f_Law_law_537 rfl
theorem f_Law_law_538 : fetch 213 538 = some (.iadd) := by decide +kernel
theorem e_Law_law_538 (a0 a1 a2 a3 : AV) (σ : aM) (x z : Int) (r : List AV)  : ev 213 538 [a0, a1, a2, a3] (aI z :: aI x :: r) σ = ev 213 539 [a0, a1, a2, a3] (aI (wr (x + z)) :: r) σ := ev_go f_Law_law_538 rfl
theorem f_Law_law_539 : fetch 213 539 = some (.iaload) := by decide +kernel
theorem e_Law_law_539 (a0 a1 a2 a3 : AV) (σ : aM) (x : Int) (r : List AV) (h : 0 ≤ x ∧ x < gI σ 34 0 (-1)) : ev 213 539 [a0, a1, a2, a3] (aI x :: aR 34 0 :: r) σ = ev 213 540 [a0, a1, a2, a3] (aI (gI σ 34 0 x) :: r) σ := ev_ldS f_Law_law_539 rfl h
theorem f_Law_law_540 : fetch 213 540 = some (.aload_n 0) := by decide +kernel
theorem e_Law_law_540 (a1 a2 a3 : AV) (σ : aM) (l0 : Option (Nat × Int)) (r : List AV)  : ev 213 540 [aQ l0, a1, a2, a3] (r) σ = ev 213 541 [aQ l0, a1, a2, a3] (aQ l0 :: r) σ := ev_go f_Law_law_540 rfl
theorem f_Law_law_541 : fetch 213 541 = some (.iload_n 3) := by decide +kernel
theorem e_Law_law_541 (a0 a1 a2 : AV) (σ : aM) (l3 : Int) (r : List AV)  : ev 213 541 [a0, a1, a2, aI l3] (r) σ = ev 213 542 [a0, a1, a2, aI l3] (aI l3 :: r) σ := ev_go f_Law_law_541 rfl
theorem f_Law_law_542 : fetch 213 542 = some (.iconst 5) := by decide +kernel
theorem e_Law_law_542 (a0 a1 a2 a3 : AV) (σ : aM) (r : List AV)  : ev 213 542 [a0, a1, a2, a3] (r) σ = ev 213 543 [a0, a1, a2, a3] (aI 5 :: r) σ := ev_go f_Law_law_542 rfl
theorem f_Law_law_543 : fetch 213 543 = some (.iadd) := by decide +kernel
theorem e_Law_law_543 (a0 a1 a2 a3 : AV) (σ : aM) (x z : Int) (r : List AV)  : ev 213 543 [a0, a1, a2, a3] (aI z :: aI x :: r) σ = ev 213 544 [a0, a1, a2, a3] (aI (wr (x + z)) :: r) σ := ev_go f_Law_law_543 rfl
theorem f_Law_law_544 : fetch 213 544 = some (.iaload) := by decide +kernel
theorem e_Law_law_544 (a0 a1 a2 a3 : AV) (σ : aM) (x : Int) (r : List AV) (h : 0 ≤ x ∧ x < gI σ 34 0 (-1)) : ev 213 544 [a0, a1, a2, a3] (aI x :: aR 34 0 :: r) σ = ev 213 545 [a0, a1, a2, a3] (aI (gI σ 34 0 x) :: r) σ := ev_ldS f_Law_law_544 rfl h
theorem f_Law_law_545 : fetch 213 545 = some (.invokevirtual 52) := by decide +kernel
theorem e_Law_law_545 (a0 a1 a2 a3 : AV) (σ : aM) (s0 : Int) (s1 : Int) (s2 : Int) (s3 : Int) (s4 : Int) (s5 : Int) (s6 : Int) : ev 213 545 [a0, a1, a2, a3] [aI s6, aI s5, aI s4, aI s3, aI s2, aR 25 s1, aI s0] σ = evK 213 548 [a0, a1, a2, a3] [aI s0] (ev 164 0 [aR 25 s1, aI s2, aI s3, aI s4, aI s5, aI s6, aU, aU] [] σ) := ev_call f_Law_law_545 rfl rfl
theorem f_Law_law_548 : fetch 213 548 = some (.if_icmp .eq 776) := by decide +kernel
theorem e_Law_law_548 (a0 a1 a2 a3 : AV) (σ : aM) (x z : Int) (r : List AV) : ev 213 548 [a0, a1, a2, a3] (aI z :: aI x :: r) σ = if x = z then ev 213 1324 [a0, a1, a2, a3] r σ else ev 213 551 [a0, a1, a2, a3] r σ := ev_br f_Law_law_548 rfl bc_eq
theorem f_Law_law_551 : fetch 213 551 = some (.iconst 0) := by decide +kernel
theorem e_Law_law_551 (a0 a1 a2 a3 : AV) (σ : aM) (r : List AV)  : ev 213 551 [a0, a1, a2, a3] (r) σ = ev 213 552 [a0, a1, a2, a3] (aI 0 :: r) σ := ev_go f_Law_law_551 rfl
theorem f_Law_law_552 : fetch 213 552 = some (.ireturn) := by decide +kernel
theorem e_Law_law_552 (a0 a1 a2 a3 : AV) (σ : aM) (x : Int) (h : x = 0 ∨ x = 1) : ev 213 552 [a0, a1, a2, a3] [aI x] σ = some ((some (aI x)), σ) := ev_rB f_Law_law_552 rfl h
theorem f_Law_law_553 : fetch 213 553 = some (.aload_n 1) := by decide +kernel
theorem e_Law_law_553 (a0 a2 a3 : AV) (σ : aM) (l1 : Option (Nat × Int)) (r : List AV)  : ev 213 553 [a0, aQ l1, a2, a3] (r) σ = ev 213 554 [a0, aQ l1, a2, a3] (aQ l1 :: r) σ := ev_go f_Law_law_553 rfl
theorem f_Law_law_554 : fetch 213 554 = some (.aload_n 0) := by decide +kernel
theorem e_Law_law_554 (a1 a2 a3 : AV) (σ : aM) (l0 : Option (Nat × Int)) (r : List AV)  : ev 213 554 [aQ l0, a1, a2, a3] (r) σ = ev 213 555 [aQ l0, a1, a2, a3] (aQ l0 :: r) σ := ev_go f_Law_law_554 rfl
theorem f_Law_law_555 : fetch 213 555 = some (.iload_n 3) := by decide +kernel
theorem e_Law_law_555 (a0 a1 a2 : AV) (σ : aM) (l3 : Int) (r : List AV)  : ev 213 555 [a0, a1, a2, aI l3] (r) σ = ev 213 556 [a0, a1, a2, aI l3] (aI l3 :: r) σ := ev_go f_Law_law_555 rfl
theorem f_Law_law_556 : fetch 213 556 = some (.iconst 1) := by decide +kernel
theorem e_Law_law_556 (a0 a1 a2 a3 : AV) (σ : aM) (r : List AV)  : ev 213 556 [a0, a1, a2, a3] (r) σ = ev 213 557 [a0, a1, a2, a3] (aI 1 :: r) σ := ev_go f_Law_law_556 rfl
theorem f_Law_law_557 : fetch 213 557 = some (.iadd) := by decide +kernel
theorem e_Law_law_557 (a0 a1 a2 a3 : AV) (σ : aM) (x z : Int) (r : List AV)  : ev 213 557 [a0, a1, a2, a3] (aI z :: aI x :: r) σ = ev 213 558 [a0, a1, a2, a3] (aI (wr (x + z)) :: r) σ := ev_go f_Law_law_557 rfl
theorem f_Law_law_558 : fetch 213 558 = some (.iaload) := by decide +kernel
theorem e_Law_law_558 (a0 a1 a2 a3 : AV) (σ : aM) (x : Int) (r : List AV) (h : 0 ≤ x ∧ x < gI σ 34 0 (-1)) : ev 213 558 [a0, a1, a2, a3] (aI x :: aR 34 0 :: r) σ = ev 213 559 [a0, a1, a2, a3] (aI (gI σ 34 0 x) :: r) σ := ev_ldS f_Law_law_558 rfl h
theorem f_Law_law_559 : fetch 213 559 = some (.aload_n 0) := by decide +kernel
theorem e_Law_law_559 (a1 a2 a3 : AV) (σ : aM) (l0 : Option (Nat × Int)) (r : List AV)  : ev 213 559 [aQ l0, a1, a2, a3] (r) σ = ev 213 560 [aQ l0, a1, a2, a3] (aQ l0 :: r) σ := ev_go f_Law_law_559 rfl
theorem f_Law_law_560 : fetch 213 560 = some (.iload_n 3) := by decide +kernel
theorem e_Law_law_560 (a0 a1 a2 : AV) (σ : aM) (l3 : Int) (r : List AV)  : ev 213 560 [a0, a1, a2, aI l3] (r) σ = ev 213 561 [a0, a1, a2, aI l3] (aI l3 :: r) σ := ev_go f_Law_law_560 rfl
theorem f_Law_law_561 : fetch 213 561 = some (.iconst 2) := by decide +kernel
theorem e_Law_law_561 (a0 a1 a2 a3 : AV) (σ : aM) (r : List AV)  : ev 213 561 [a0, a1, a2, a3] (r) σ = ev 213 562 [a0, a1, a2, a3] (aI 2 :: r) σ := ev_go f_Law_law_561 rfl
theorem f_Law_law_562 : fetch 213 562 = some (.iadd) := by decide +kernel
theorem e_Law_law_562 (a0 a1 a2 a3 : AV) (σ : aM) (x z : Int) (r : List AV)  : ev 213 562 [a0, a1, a2, a3] (aI z :: aI x :: r) σ = ev 213 563 [a0, a1, a2, a3] (aI (wr (x + z)) :: r) σ := ev_go f_Law_law_562 rfl
theorem f_Law_law_563 : fetch 213 563 = some (.iaload) := by decide +kernel
theorem e_Law_law_563 (a0 a1 a2 a3 : AV) (σ : aM) (x : Int) (r : List AV) (h : 0 ≤ x ∧ x < gI σ 34 0 (-1)) : ev 213 563 [a0, a1, a2, a3] (aI x :: aR 34 0 :: r) σ = ev 213 564 [a0, a1, a2, a3] (aI (gI σ 34 0 x) :: r) σ := ev_ldS f_Law_law_563 rfl h
theorem f_Law_law_564 : fetch 213 564 = some (.aload_n 0) := by decide +kernel
theorem e_Law_law_564 (a1 a2 a3 : AV) (σ : aM) (l0 : Option (Nat × Int)) (r : List AV)  : ev 213 564 [aQ l0, a1, a2, a3] (r) σ = ev 213 565 [aQ l0, a1, a2, a3] (aQ l0 :: r) σ := ev_go f_Law_law_564 rfl
theorem f_Law_law_565 : fetch 213 565 = some (.iload_n 3) := by decide +kernel
theorem e_Law_law_565 (a0 a1 a2 : AV) (σ : aM) (l3 : Int) (r : List AV)  : ev 213 565 [a0, a1, a2, aI l3] (r) σ = ev 213 566 [a0, a1, a2, aI l3] (aI l3 :: r) σ := ev_go f_Law_law_565 rfl
theorem f_Law_law_566 : fetch 213 566 = some (.iconst 3) := by decide +kernel
theorem e_Law_law_566 (a0 a1 a2 a3 : AV) (σ : aM) (r : List AV)  : ev 213 566 [a0, a1, a2, a3] (r) σ = ev 213 567 [a0, a1, a2, a3] (aI 3 :: r) σ := ev_go f_Law_law_566 rfl
theorem f_Law_law_567 : fetch 213 567 = some (.iadd) := by decide +kernel
theorem e_Law_law_567 (a0 a1 a2 a3 : AV) (σ : aM) (x z : Int) (r : List AV)  : ev 213 567 [a0, a1, a2, a3] (aI z :: aI x :: r) σ = ev 213 568 [a0, a1, a2, a3] (aI (wr (x + z)) :: r) σ := ev_go f_Law_law_567 rfl
theorem f_Law_law_568 : fetch 213 568 = some (.iaload) := by decide +kernel
theorem e_Law_law_568 (a0 a1 a2 a3 : AV) (σ : aM) (x : Int) (r : List AV) (h : 0 ≤ x ∧ x < gI σ 34 0 (-1)) : ev 213 568 [a0, a1, a2, a3] (aI x :: aR 34 0 :: r) σ = ev 213 569 [a0, a1, a2, a3] (aI (gI σ 34 0 x) :: r) σ := ev_ldS f_Law_law_568 rfl h
theorem f_Law_law_569 : fetch 213 569 = some (.aload_n 0) := by decide +kernel
theorem e_Law_law_569 (a1 a2 a3 : AV) (σ : aM) (l0 : Option (Nat × Int)) (r : List AV)  : ev 213 569 [aQ l0, a1, a2, a3] (r) σ = ev 213 570 [aQ l0, a1, a2, a3] (aQ l0 :: r) σ := ev_go f_Law_law_569 rfl
theorem f_Law_law_570 : fetch 213 570 = some (.iload_n 3) := by decide +kernel
theorem e_Law_law_570 (a0 a1 a2 : AV) (σ : aM) (l3 : Int) (r : List AV)  : ev 213 570 [a0, a1, a2, aI l3] (r) σ = ev 213 571 [a0, a1, a2, aI l3] (aI l3 :: r) σ := ev_go f_Law_law_570 rfl
theorem f_Law_law_571 : fetch 213 571 = some (.iconst 4) := by decide +kernel
theorem e_Law_law_571 (a0 a1 a2 a3 : AV) (σ : aM) (r : List AV)  : ev 213 571 [a0, a1, a2, a3] (r) σ = ev 213 572 [a0, a1, a2, a3] (aI 4 :: r) σ := ev_go f_Law_law_571 rfl
theorem f_Law_law_572 : fetch 213 572 = some (.iadd) := by decide +kernel
theorem e_Law_law_572 (a0 a1 a2 a3 : AV) (σ : aM) (x z : Int) (r : List AV)  : ev 213 572 [a0, a1, a2, a3] (aI z :: aI x :: r) σ = ev 213 573 [a0, a1, a2, a3] (aI (wr (x + z)) :: r) σ := ev_go f_Law_law_572 rfl
theorem f_Law_law_573 : fetch 213 573 = some (.iaload) := by decide +kernel
theorem e_Law_law_573 (a0 a1 a2 a3 : AV) (σ : aM) (x : Int) (r : List AV) (h : 0 ≤ x ∧ x < gI σ 34 0 (-1)) : ev 213 573 [a0, a1, a2, a3] (aI x :: aR 34 0 :: r) σ = ev 213 574 [a0, a1, a2, a3] (aI (gI σ 34 0 x) :: r) σ := ev_ldS f_Law_law_573 rfl h
theorem f_Law_law_574 : fetch 213 574 = some (.aload_n 0) := by decide +kernel
theorem e_Law_law_574 (a1 a2 a3 : AV) (σ : aM) (l0 : Option (Nat × Int)) (r : List AV)  : ev 213 574 [aQ l0, a1, a2, a3] (r) σ = ev 213 575 [aQ l0, a1, a2, a3] (aQ l0 :: r) σ := ev_go f_Law_law_574 rfl
theorem f_Law_law_575 : fetch 213 575 = some (.iload_n 3) := by decide +kernel
theorem e_Law_law_575 (a0 a1 a2 : AV) (σ : aM) (l3 : Int) (r : List AV)  : ev 213 575 [a0, a1, a2, aI l3] (r) σ = ev 213 576 [a0, a1, a2, aI l3] (aI l3 :: r) σ := ev_go f_Law_law_575 rfl
theorem f_Law_law_576 : fetch 213 576 = some (.iconst 5) := by decide +kernel
theorem e_Law_law_576 (a0 a1 a2 a3 : AV) (σ : aM) (r : List AV)  : ev 213 576 [a0, a1, a2, a3] (r) σ = ev 213 577 [a0, a1, a2, a3] (aI 5 :: r) σ := ev_go f_Law_law_576 rfl
theorem f_Law_law_577 : fetch 213 577 = some (.iadd) := by decide +kernel
theorem e_Law_law_577 (a0 a1 a2 a3 : AV) (σ : aM) (x z : Int) (r : List AV)  : ev 213 577 [a0, a1, a2, a3] (aI z :: aI x :: r) σ = ev 213 578 [a0, a1, a2, a3] (aI (wr (x + z)) :: r) σ := ev_go f_Law_law_577 rfl
theorem f_Law_law_578 : fetch 213 578 = some (.iaload) := by decide +kernel
theorem e_Law_law_578 (a0 a1 a2 a3 : AV) (σ : aM) (x : Int) (r : List AV) (h : 0 ≤ x ∧ x < gI σ 34 0 (-1)) : ev 213 578 [a0, a1, a2, a3] (aI x :: aR 34 0 :: r) σ = ev 213 579 [a0, a1, a2, a3] (aI (gI σ 34 0 x) :: r) σ := ev_ldS f_Law_law_578 rfl h
theorem f_Law_law_579 : fetch 213 579 = some (.invokevirtual 53) := by decide +kernel
theorem e_Law_law_579 (a0 a1 a2 a3 : AV) (σ : aM) (s0 : Int) (s1 : Int) (s2 : Int) (s3 : Int) (s4 : Int) (s5 : Int) : ev 213 579 [a0, a1, a2, a3] [aI s5, aI s4, aI s3, aI s2, aI s1, aR 0 s0] σ = evK 213 582 [a0, a1, a2, a3] [] (ev 86 0 [aR 0 s0, aI s1, aI s2, aI s3, aI s4, aI s5, aU, aU] [] σ) := ev_call f_Law_law_579 rfl rfl
theorem f_Law_law_582 : fetch 213 582 = some (.aload_n 2) := by decide +kernel
theorem e_Law_law_582 (a0 a1 a3 : AV) (σ : aM) (l2 : Option (Nat × Int)) (r : List AV)  : ev 213 582 [a0, a1, aQ l2, a3] (r) σ = ev 213 583 [a0, a1, aQ l2, a3] (aQ l2 :: r) σ := ev_go f_Law_law_582 rfl
theorem f_Law_law_583 : fetch 213 583 = some (.aload_n 0) := by decide +kernel
theorem e_Law_law_583 (a1 a2 a3 : AV) (σ : aM) (l0 : Option (Nat × Int)) (r : List AV)  : ev 213 583 [aQ l0, a1, a2, a3] (r) σ = ev 213 584 [aQ l0, a1, a2, a3] (aQ l0 :: r) σ := ev_go f_Law_law_583 rfl
theorem f_Law_law_584 : fetch 213 584 = some (.iload_n 3) := by decide +kernel
theorem e_Law_law_584 (a0 a1 a2 : AV) (σ : aM) (l3 : Int) (r : List AV)  : ev 213 584 [a0, a1, a2, aI l3] (r) σ = ev 213 585 [a0, a1, a2, aI l3] (aI l3 :: r) σ := ev_go f_Law_law_584 rfl
theorem f_Law_law_585 : fetch 213 585 = some (.iconst 1) := by decide +kernel
theorem e_Law_law_585 (a0 a1 a2 a3 : AV) (σ : aM) (r : List AV)  : ev 213 585 [a0, a1, a2, a3] (r) σ = ev 213 586 [a0, a1, a2, a3] (aI 1 :: r) σ := ev_go f_Law_law_585 rfl
theorem f_Law_law_586 : fetch 213 586 = some (.iadd) := by decide +kernel
theorem e_Law_law_586 (a0 a1 a2 a3 : AV) (σ : aM) (x z : Int) (r : List AV)  : ev 213 586 [a0, a1, a2, a3] (aI z :: aI x :: r) σ = ev 213 587 [a0, a1, a2, a3] (aI (wr (x + z)) :: r) σ := ev_go f_Law_law_586 rfl
theorem f_Law_law_587 : fetch 213 587 = some (.iaload) := by decide +kernel
theorem e_Law_law_587 (a0 a1 a2 a3 : AV) (σ : aM) (x : Int) (r : List AV) (h : 0 ≤ x ∧ x < gI σ 34 0 (-1)) : ev 213 587 [a0, a1, a2, a3] (aI x :: aR 34 0 :: r) σ = ev 213 588 [a0, a1, a2, a3] (aI (gI σ 34 0 x) :: r) σ := ev_ldS f_Law_law_587 rfl h
theorem f_Law_law_588 : fetch 213 588 = some (.aload_n 0) := by decide +kernel
theorem e_Law_law_588 (a1 a2 a3 : AV) (σ : aM) (l0 : Option (Nat × Int)) (r : List AV)  : ev 213 588 [aQ l0, a1, a2, a3] (r) σ = ev 213 589 [aQ l0, a1, a2, a3] (aQ l0 :: r) σ := ev_go f_Law_law_588 rfl
theorem f_Law_law_589 : fetch 213 589 = some (.iload_n 3) := by decide +kernel
theorem e_Law_law_589 (a0 a1 a2 : AV) (σ : aM) (l3 : Int) (r : List AV)  : ev 213 589 [a0, a1, a2, aI l3] (r) σ = ev 213 590 [a0, a1, a2, aI l3] (aI l3 :: r) σ := ev_go f_Law_law_589 rfl
theorem f_Law_law_590 : fetch 213 590 = some (.iconst 2) := by decide +kernel
theorem e_Law_law_590 (a0 a1 a2 a3 : AV) (σ : aM) (r : List AV)  : ev 213 590 [a0, a1, a2, a3] (r) σ = ev 213 591 [a0, a1, a2, a3] (aI 2 :: r) σ := ev_go f_Law_law_590 rfl
theorem f_Law_law_591 : fetch 213 591 = some (.iadd) := by decide +kernel
theorem e_Law_law_591 (a0 a1 a2 a3 : AV) (σ : aM) (x z : Int) (r : List AV)  : ev 213 591 [a0, a1, a2, a3] (aI z :: aI x :: r) σ = ev 213 592 [a0, a1, a2, a3] (aI (wr (x + z)) :: r) σ := ev_go f_Law_law_591 rfl
theorem f_Law_law_592 : fetch 213 592 = some (.iaload) := by decide +kernel
theorem e_Law_law_592 (a0 a1 a2 a3 : AV) (σ : aM) (x : Int) (r : List AV) (h : 0 ≤ x ∧ x < gI σ 34 0 (-1)) : ev 213 592 [a0, a1, a2, a3] (aI x :: aR 34 0 :: r) σ = ev 213 593 [a0, a1, a2, a3] (aI (gI σ 34 0 x) :: r) σ := ev_ldS f_Law_law_592 rfl h
theorem f_Law_law_593 : fetch 213 593 = some (.aload_n 0) := by decide +kernel
theorem e_Law_law_593 (a1 a2 a3 : AV) (σ : aM) (l0 : Option (Nat × Int)) (r : List AV)  : ev 213 593 [aQ l0, a1, a2, a3] (r) σ = ev 213 594 [aQ l0, a1, a2, a3] (aQ l0 :: r) σ := ev_go f_Law_law_593 rfl
theorem f_Law_law_594 : fetch 213 594 = some (.iload_n 3) := by decide +kernel
theorem e_Law_law_594 (a0 a1 a2 : AV) (σ : aM) (l3 : Int) (r : List AV)  : ev 213 594 [a0, a1, a2, aI l3] (r) σ = ev 213 595 [a0, a1, a2, aI l3] (aI l3 :: r) σ := ev_go f_Law_law_594 rfl
theorem f_Law_law_595 : fetch 213 595 = some (.iconst 3) := by decide +kernel
theorem e_Law_law_595 (a0 a1 a2 a3 : AV) (σ : aM) (r : List AV)  : ev 213 595 [a0, a1, a2, a3] (r) σ = ev 213 596 [a0, a1, a2, a3] (aI 3 :: r) σ := ev_go f_Law_law_595 rfl
theorem f_Law_law_596 : fetch 213 596 = some (.iadd) := by decide +kernel
theorem e_Law_law_596 (a0 a1 a2 a3 : AV) (σ : aM) (x z : Int) (r : List AV)  : ev 213 596 [a0, a1, a2, a3] (aI z :: aI x :: r) σ = ev 213 597 [a0, a1, a2, a3] (aI (wr (x + z)) :: r) σ := ev_go f_Law_law_596 rfl
theorem f_Law_law_597 : fetch 213 597 = some (.iaload) := by decide +kernel
theorem e_Law_law_597 (a0 a1 a2 a3 : AV) (σ : aM) (x : Int) (r : List AV) (h : 0 ≤ x ∧ x < gI σ 34 0 (-1)) : ev 213 597 [a0, a1, a2, a3] (aI x :: aR 34 0 :: r) σ = ev 213 598 [a0, a1, a2, a3] (aI (gI σ 34 0 x) :: r) σ := ev_ldS f_Law_law_597 rfl h
theorem f_Law_law_598 : fetch 213 598 = some (.aload_n 0) := by decide +kernel
theorem e_Law_law_598 (a1 a2 a3 : AV) (σ : aM) (l0 : Option (Nat × Int)) (r : List AV)  : ev 213 598 [aQ l0, a1, a2, a3] (r) σ = ev 213 599 [aQ l0, a1, a2, a3] (aQ l0 :: r) σ := ev_go f_Law_law_598 rfl
theorem f_Law_law_599 : fetch 213 599 = some (.iload_n 3) := by decide +kernel
theorem e_Law_law_599 (a0 a1 a2 : AV) (σ : aM) (l3 : Int) (r : List AV)  : ev 213 599 [a0, a1, a2, aI l3] (r) σ = ev 213 600 [a0, a1, a2, aI l3] (aI l3 :: r) σ := ev_go f_Law_law_599 rfl
theorem f_Law_law_600 : fetch 213 600 = some (.iconst 4) := by decide +kernel
theorem e_Law_law_600 (a0 a1 a2 a3 : AV) (σ : aM) (r : List AV)  : ev 213 600 [a0, a1, a2, a3] (r) σ = ev 213 601 [a0, a1, a2, a3] (aI 4 :: r) σ := ev_go f_Law_law_600 rfl
theorem f_Law_law_601 : fetch 213 601 = some (.iadd) := by decide +kernel
theorem e_Law_law_601 (a0 a1 a2 a3 : AV) (σ : aM) (x z : Int) (r : List AV)  : ev 213 601 [a0, a1, a2, a3] (aI z :: aI x :: r) σ = ev 213 602 [a0, a1, a2, a3] (aI (wr (x + z)) :: r) σ := ev_go f_Law_law_601 rfl
theorem f_Law_law_602 : fetch 213 602 = some (.iaload) := by decide +kernel
theorem e_Law_law_602 (a0 a1 a2 a3 : AV) (σ : aM) (x : Int) (r : List AV) (h : 0 ≤ x ∧ x < gI σ 34 0 (-1)) : ev 213 602 [a0, a1, a2, a3] (aI x :: aR 34 0 :: r) σ = ev 213 603 [a0, a1, a2, a3] (aI (gI σ 34 0 x) :: r) σ := ev_ldS f_Law_law_602 rfl h
theorem f_Law_law_603 : fetch 213 603 = some (.aload_n 0) := by decide +kernel
theorem e_Law_law_603 (a1 a2 a3 : AV) (σ : aM) (l0 : Option (Nat × Int)) (r : List AV)  : ev 213 603 [aQ l0, a1, a2, a3] (r) σ = ev 213 604 [aQ l0, a1, a2, a3] (aQ l0 :: r) σ := ev_go f_Law_law_603 rfl
theorem f_Law_law_604 : fetch 213 604 = some (.iload_n 3) := by decide +kernel
theorem e_Law_law_604 (a0 a1 a2 : AV) (σ : aM) (l3 : Int) (r : List AV)  : ev 213 604 [a0, a1, a2, aI l3] (r) σ = ev 213 605 [a0, a1, a2, aI l3] (aI l3 :: r) σ := ev_go f_Law_law_604 rfl
theorem f_Law_law_605 : fetch 213 605 = some (.iconst 5) := by decide +kernel
theorem e_Law_law_605 (a0 a1 a2 a3 : AV) (σ : aM) (r : List AV)  : ev 213 605 [a0, a1, a2, a3] (r) σ = ev 213 606 [a0, a1, a2, a3] (aI 5 :: r) σ := ev_go f_Law_law_605 rfl
theorem f_Law_law_606 : fetch 213 606 = some (.iadd) := by decide +kernel
theorem e_Law_law_606 (a0 a1 a2 a3 : AV) (σ : aM) (x z : Int) (r : List AV)  : ev 213 606 [a0, a1, a2, a3] (aI z :: aI x :: r) σ = ev 213 607 [a0, a1, a2, a3] (aI (wr (x + z)) :: r) σ := ev_go f_Law_law_606 rfl
theorem f_Law_law_607 : fetch 213 607 = some (.iaload) := by decide +kernel
theorem e_Law_law_607 (a0 a1 a2 a3 : AV) (σ : aM) (x : Int) (r : List AV) (h : 0 ≤ x ∧ x < gI σ 34 0 (-1)) : ev 213 607 [a0, a1, a2, a3] (aI x :: aR 34 0 :: r) σ = ev 213 608 [a0, a1, a2, a3] (aI (gI σ 34 0 x) :: r) σ := ev_ldS f_Law_law_607 rfl h
theorem f_Law_law_608 : fetch 213 608 = some (.invokevirtual 56) := by decide +kernel
theorem e_Law_law_608 (a0 a1 a2 a3 : AV) (σ : aM) (s0 : Int) (s1 : Int) (s2 : Int) (s3 : Int) (s4 : Int) (s5 : Int) (s6 : Int) : ev 213 608 [a0, a1, a2, a3] [aI s6, aI s5, aI s4, aI s3, aI s2, aR 25 s1, aI s0] σ = evK 213 611 [a0, a1, a2, a3] [aI s0] (ev 165 0 [aR 25 s1, aI s2, aI s3, aI s4, aI s5, aI s6, aU, aU] [] σ) := ev_call f_Law_law_608 rfl rfl
theorem f_Law_law_611 : fetch 213 611 = some (.if_icmp .eq 713) := by decide +kernel
theorem e_Law_law_611 (a0 a1 a2 a3 : AV) (σ : aM) (x z : Int) (r : List AV) : ev 213 611 [a0, a1, a2, a3] (aI z :: aI x :: r) σ = if x = z then ev 213 1324 [a0, a1, a2, a3] r σ else ev 213 614 [a0, a1, a2, a3] r σ := ev_br f_Law_law_611 rfl bc_eq
theorem f_Law_law_614 : fetch 213 614 = some (.iconst 0) := by decide +kernel
theorem e_Law_law_614 (a0 a1 a2 a3 : AV) (σ : aM) (r : List AV)  : ev 213 614 [a0, a1, a2, a3] (r) σ = ev 213 615 [a0, a1, a2, a3] (aI 0 :: r) σ := ev_go f_Law_law_614 rfl
theorem f_Law_law_615 : fetch 213 615 = some (.ireturn) := by decide +kernel
theorem e_Law_law_615 (a0 a1 a2 a3 : AV) (σ : aM) (x : Int) (h : x = 0 ∨ x = 1) : ev 213 615 [a0, a1, a2, a3] [aI x] σ = some ((some (aI x)), σ) := ev_rB f_Law_law_615 rfl h
theorem f_Law_law_616 : fetch 213 616 = some (.aload_n 1) := by decide +kernel
theorem e_Law_law_616 (a0 a2 a3 : AV) (σ : aM) (l1 : Option (Nat × Int)) (r : List AV)  : ev 213 616 [a0, aQ l1, a2, a3] (r) σ = ev 213 617 [a0, aQ l1, a2, a3] (aQ l1 :: r) σ := ev_go f_Law_law_616 rfl
theorem f_Law_law_617 : fetch 213 617 = some (.aload_n 0) := by decide +kernel
theorem e_Law_law_617 (a1 a2 a3 : AV) (σ : aM) (l0 : Option (Nat × Int)) (r : List AV)  : ev 213 617 [aQ l0, a1, a2, a3] (r) σ = ev 213 618 [aQ l0, a1, a2, a3] (aQ l0 :: r) σ := ev_go f_Law_law_617 rfl
theorem f_Law_law_618 : fetch 213 618 = some (.iload_n 3) := by decide +kernel
theorem e_Law_law_618 (a0 a1 a2 : AV) (σ : aM) (l3 : Int) (r : List AV)  : ev 213 618 [a0, a1, a2, aI l3] (r) σ = ev 213 619 [a0, a1, a2, aI l3] (aI l3 :: r) σ := ev_go f_Law_law_618 rfl
theorem f_Law_law_619 : fetch 213 619 = some (.iconst 1) := by decide +kernel
theorem e_Law_law_619 (a0 a1 a2 a3 : AV) (σ : aM) (r : List AV)  : ev 213 619 [a0, a1, a2, a3] (r) σ = ev 213 620 [a0, a1, a2, a3] (aI 1 :: r) σ := ev_go f_Law_law_619 rfl
theorem f_Law_law_620 : fetch 213 620 = some (.iadd) := by decide +kernel
theorem e_Law_law_620 (a0 a1 a2 a3 : AV) (σ : aM) (x z : Int) (r : List AV)  : ev 213 620 [a0, a1, a2, a3] (aI z :: aI x :: r) σ = ev 213 621 [a0, a1, a2, a3] (aI (wr (x + z)) :: r) σ := ev_go f_Law_law_620 rfl
theorem f_Law_law_621 : fetch 213 621 = some (.iaload) := by decide +kernel
theorem e_Law_law_621 (a0 a1 a2 a3 : AV) (σ : aM) (x : Int) (r : List AV) (h : 0 ≤ x ∧ x < gI σ 34 0 (-1)) : ev 213 621 [a0, a1, a2, a3] (aI x :: aR 34 0 :: r) σ = ev 213 622 [a0, a1, a2, a3] (aI (gI σ 34 0 x) :: r) σ := ev_ldS f_Law_law_621 rfl h
theorem f_Law_law_622 : fetch 213 622 = some (.aload_n 0) := by decide +kernel
theorem e_Law_law_622 (a1 a2 a3 : AV) (σ : aM) (l0 : Option (Nat × Int)) (r : List AV)  : ev 213 622 [aQ l0, a1, a2, a3] (r) σ = ev 213 623 [aQ l0, a1, a2, a3] (aQ l0 :: r) σ := ev_go f_Law_law_622 rfl
theorem f_Law_law_623 : fetch 213 623 = some (.iload_n 3) := by decide +kernel
theorem e_Law_law_623 (a0 a1 a2 : AV) (σ : aM) (l3 : Int) (r : List AV)  : ev 213 623 [a0, a1, a2, aI l3] (r) σ = ev 213 624 [a0, a1, a2, aI l3] (aI l3 :: r) σ := ev_go f_Law_law_623 rfl
theorem f_Law_law_624 : fetch 213 624 = some (.iconst 2) := by decide +kernel
theorem e_Law_law_624 (a0 a1 a2 a3 : AV) (σ : aM) (r : List AV)  : ev 213 624 [a0, a1, a2, a3] (r) σ = ev 213 625 [a0, a1, a2, a3] (aI 2 :: r) σ := ev_go f_Law_law_624 rfl
theorem f_Law_law_625 : fetch 213 625 = some (.iadd) := by decide +kernel
theorem e_Law_law_625 (a0 a1 a2 a3 : AV) (σ : aM) (x z : Int) (r : List AV)  : ev 213 625 [a0, a1, a2, a3] (aI z :: aI x :: r) σ = ev 213 626 [a0, a1, a2, a3] (aI (wr (x + z)) :: r) σ := ev_go f_Law_law_625 rfl
theorem f_Law_law_626 : fetch 213 626 = some (.iaload) := by decide +kernel
theorem e_Law_law_626 (a0 a1 a2 a3 : AV) (σ : aM) (x : Int) (r : List AV) (h : 0 ≤ x ∧ x < gI σ 34 0 (-1)) : ev 213 626 [a0, a1, a2, a3] (aI x :: aR 34 0 :: r) σ = ev 213 627 [a0, a1, a2, a3] (aI (gI σ 34 0 x) :: r) σ := ev_ldS f_Law_law_626 rfl h
theorem f_Law_law_627 : fetch 213 627 = some (.aload_n 0) := by decide +kernel
theorem e_Law_law_627 (a1 a2 a3 : AV) (σ : aM) (l0 : Option (Nat × Int)) (r : List AV)  : ev 213 627 [aQ l0, a1, a2, a3] (r) σ = ev 213 628 [aQ l0, a1, a2, a3] (aQ l0 :: r) σ := ev_go f_Law_law_627 rfl
theorem f_Law_law_628 : fetch 213 628 = some (.iload_n 3) := by decide +kernel
theorem e_Law_law_628 (a0 a1 a2 : AV) (σ : aM) (l3 : Int) (r : List AV)  : ev 213 628 [a0, a1, a2, aI l3] (r) σ = ev 213 629 [a0, a1, a2, aI l3] (aI l3 :: r) σ := ev_go f_Law_law_628 rfl
theorem f_Law_law_629 : fetch 213 629 = some (.iconst 3) := by decide +kernel
theorem e_Law_law_629 (a0 a1 a2 a3 : AV) (σ : aM) (r : List AV)  : ev 213 629 [a0, a1, a2, a3] (r) σ = ev 213 630 [a0, a1, a2, a3] (aI 3 :: r) σ := ev_go f_Law_law_629 rfl
theorem f_Law_law_630 : fetch 213 630 = some (.iadd) := by decide +kernel
theorem e_Law_law_630 (a0 a1 a2 a3 : AV) (σ : aM) (x z : Int) (r : List AV)  : ev 213 630 [a0, a1, a2, a3] (aI z :: aI x :: r) σ = ev 213 631 [a0, a1, a2, a3] (aI (wr (x + z)) :: r) σ := ev_go f_Law_law_630 rfl
theorem f_Law_law_631 : fetch 213 631 = some (.iaload) := by decide +kernel
theorem e_Law_law_631 (a0 a1 a2 a3 : AV) (σ : aM) (x : Int) (r : List AV) (h : 0 ≤ x ∧ x < gI σ 34 0 (-1)) : ev 213 631 [a0, a1, a2, a3] (aI x :: aR 34 0 :: r) σ = ev 213 632 [a0, a1, a2, a3] (aI (gI σ 34 0 x) :: r) σ := ev_ldS f_Law_law_631 rfl h
theorem f_Law_law_632 : fetch 213 632 = some (.aload_n 0) := by decide +kernel
theorem e_Law_law_632 (a1 a2 a3 : AV) (σ : aM) (l0 : Option (Nat × Int)) (r : List AV)  : ev 213 632 [aQ l0, a1, a2, a3] (r) σ = ev 213 633 [aQ l0, a1, a2, a3] (aQ l0 :: r) σ := ev_go f_Law_law_632 rfl
theorem f_Law_law_633 : fetch 213 633 = some (.iload_n 3) := by decide +kernel
theorem e_Law_law_633 (a0 a1 a2 : AV) (σ : aM) (l3 : Int) (r : List AV)  : ev 213 633 [a0, a1, a2, aI l3] (r) σ = ev 213 634 [a0, a1, a2, aI l3] (aI l3 :: r) σ := ev_go f_Law_law_633 rfl
theorem f_Law_law_634 : fetch 213 634 = some (.iconst 4) := by decide +kernel
theorem e_Law_law_634 (a0 a1 a2 a3 : AV) (σ : aM) (r : List AV)  : ev 213 634 [a0, a1, a2, a3] (r) σ = ev 213 635 [a0, a1, a2, a3] (aI 4 :: r) σ := ev_go f_Law_law_634 rfl
theorem f_Law_law_635 : fetch 213 635 = some (.iadd) := by decide +kernel
theorem e_Law_law_635 (a0 a1 a2 a3 : AV) (σ : aM) (x z : Int) (r : List AV)  : ev 213 635 [a0, a1, a2, a3] (aI z :: aI x :: r) σ = ev 213 636 [a0, a1, a2, a3] (aI (wr (x + z)) :: r) σ := ev_go f_Law_law_635 rfl
theorem f_Law_law_636 : fetch 213 636 = some (.iaload) := by decide +kernel
theorem e_Law_law_636 (a0 a1 a2 a3 : AV) (σ : aM) (x : Int) (r : List AV) (h : 0 ≤ x ∧ x < gI σ 34 0 (-1)) : ev 213 636 [a0, a1, a2, a3] (aI x :: aR 34 0 :: r) σ = ev 213 637 [a0, a1, a2, a3] (aI (gI σ 34 0 x) :: r) σ := ev_ldS f_Law_law_636 rfl h
theorem f_Law_law_637 : fetch 213 637 = some (.invokevirtual 57) := by decide +kernel
theorem e_Law_law_637 (a0 a1 a2 a3 : AV) (σ : aM) (s0 : Int) (s1 : Int) (s2 : Int) (s3 : Int) (s4 : Int) : ev 213 637 [a0, a1, a2, a3] [aI s4, aI s3, aI s2, aI s1, aR 0 s0] σ = evK 213 640 [a0, a1, a2, a3] [] (ev 87 0 [aR 0 s0, aI s1, aI s2, aI s3, aI s4, aU, aU] [] σ) := ev_call f_Law_law_637 rfl rfl
theorem f_Law_law_640 : fetch 213 640 = some (.aload_n 2) := by decide +kernel
theorem e_Law_law_640 (a0 a1 a3 : AV) (σ : aM) (l2 : Option (Nat × Int)) (r : List AV)  : ev 213 640 [a0, a1, aQ l2, a3] (r) σ = ev 213 641 [a0, a1, aQ l2, a3] (aQ l2 :: r) σ := ev_go f_Law_law_640 rfl
theorem f_Law_law_641 : fetch 213 641 = some (.aload_n 0) := by decide +kernel
theorem e_Law_law_641 (a1 a2 a3 : AV) (σ : aM) (l0 : Option (Nat × Int)) (r : List AV)  : ev 213 641 [aQ l0, a1, a2, a3] (r) σ = ev 213 642 [aQ l0, a1, a2, a3] (aQ l0 :: r) σ := ev_go f_Law_law_641 rfl
theorem f_Law_law_642 : fetch 213 642 = some (.iload_n 3) := by decide +kernel
theorem e_Law_law_642 (a0 a1 a2 : AV) (σ : aM) (l3 : Int) (r : List AV)  : ev 213 642 [a0, a1, a2, aI l3] (r) σ = ev 213 643 [a0, a1, a2, aI l3] (aI l3 :: r) σ := ev_go f_Law_law_642 rfl
theorem f_Law_law_643 : fetch 213 643 = some (.iconst 1) := by decide +kernel
theorem e_Law_law_643 (a0 a1 a2 a3 : AV) (σ : aM) (r : List AV)  : ev 213 643 [a0, a1, a2, a3] (r) σ = ev 213 644 [a0, a1, a2, a3] (aI 1 :: r) σ := ev_go f_Law_law_643 rfl
theorem f_Law_law_644 : fetch 213 644 = some (.iadd) := by decide +kernel
theorem e_Law_law_644 (a0 a1 a2 a3 : AV) (σ : aM) (x z : Int) (r : List AV)  : ev 213 644 [a0, a1, a2, a3] (aI z :: aI x :: r) σ = ev 213 645 [a0, a1, a2, a3] (aI (wr (x + z)) :: r) σ := ev_go f_Law_law_644 rfl
theorem f_Law_law_645 : fetch 213 645 = some (.iaload) := by decide +kernel
theorem e_Law_law_645 (a0 a1 a2 a3 : AV) (σ : aM) (x : Int) (r : List AV) (h : 0 ≤ x ∧ x < gI σ 34 0 (-1)) : ev 213 645 [a0, a1, a2, a3] (aI x :: aR 34 0 :: r) σ = ev 213 646 [a0, a1, a2, a3] (aI (gI σ 34 0 x) :: r) σ := ev_ldS f_Law_law_645 rfl h
theorem f_Law_law_646 : fetch 213 646 = some (.aload_n 0) := by decide +kernel
theorem e_Law_law_646 (a1 a2 a3 : AV) (σ : aM) (l0 : Option (Nat × Int)) (r : List AV)  : ev 213 646 [aQ l0, a1, a2, a3] (r) σ = ev 213 647 [aQ l0, a1, a2, a3] (aQ l0 :: r) σ := ev_go f_Law_law_646 rfl
theorem f_Law_law_647 : fetch 213 647 = some (.iload_n 3) := by decide +kernel
theorem e_Law_law_647 (a0 a1 a2 : AV) (σ : aM) (l3 : Int) (r : List AV)  : ev 213 647 [a0, a1, a2, aI l3] (r) σ = ev 213 648 [a0, a1, a2, aI l3] (aI l3 :: r) σ := ev_go f_Law_law_647 rfl
theorem f_Law_law_648 : fetch 213 648 = some (.iconst 2) := by decide +kernel
theorem e_Law_law_648 (a0 a1 a2 a3 : AV) (σ : aM) (r : List AV)  : ev 213 648 [a0, a1, a2, a3] (r) σ = ev 213 649 [a0, a1, a2, a3] (aI 2 :: r) σ := ev_go f_Law_law_648 rfl
theorem f_Law_law_649 : fetch 213 649 = some (.iadd) := by decide +kernel
theorem e_Law_law_649 (a0 a1 a2 a3 : AV) (σ : aM) (x z : Int) (r : List AV)  : ev 213 649 [a0, a1, a2, a3] (aI z :: aI x :: r) σ = ev 213 650 [a0, a1, a2, a3] (aI (wr (x + z)) :: r) σ := ev_go f_Law_law_649 rfl
theorem f_Law_law_650 : fetch 213 650 = some (.iaload) := by decide +kernel
theorem e_Law_law_650 (a0 a1 a2 a3 : AV) (σ : aM) (x : Int) (r : List AV) (h : 0 ≤ x ∧ x < gI σ 34 0 (-1)) : ev 213 650 [a0, a1, a2, a3] (aI x :: aR 34 0 :: r) σ = ev 213 651 [a0, a1, a2, a3] (aI (gI σ 34 0 x) :: r) σ := ev_ldS f_Law_law_650 rfl h
theorem f_Law_law_651 : fetch 213 651 = some (.aload_n 0) := by decide +kernel
theorem e_Law_law_651 (a1 a2 a3 : AV) (σ : aM) (l0 : Option (Nat × Int)) (r : List AV)  : ev 213 651 [aQ l0, a1, a2, a3] (r) σ = ev 213 652 [aQ l0, a1, a2, a3] (aQ l0 :: r) σ := ev_go f_Law_law_651 rfl
theorem f_Law_law_652 : fetch 213 652 = some (.iload_n 3) := by decide +kernel
theorem e_Law_law_652 (a0 a1 a2 : AV) (σ : aM) (l3 : Int) (r : List AV)  : ev 213 652 [a0, a1, a2, aI l3] (r) σ = ev 213 653 [a0, a1, a2, aI l3] (aI l3 :: r) σ := ev_go f_Law_law_652 rfl
theorem f_Law_law_653 : fetch 213 653 = some (.iconst 3) := by decide +kernel
theorem e_Law_law_653 (a0 a1 a2 a3 : AV) (σ : aM) (r : List AV)  : ev 213 653 [a0, a1, a2, a3] (r) σ = ev 213 654 [a0, a1, a2, a3] (aI 3 :: r) σ := ev_go f_Law_law_653 rfl
theorem f_Law_law_654 : fetch 213 654 = some (.iadd) := by decide +kernel
theorem e_Law_law_654 (a0 a1 a2 a3 : AV) (σ : aM) (x z : Int) (r : List AV)  : ev 213 654 [a0, a1, a2, a3] (aI z :: aI x :: r) σ = ev 213 655 [a0, a1, a2, a3] (aI (wr (x + z)) :: r) σ := ev_go f_Law_law_654 rfl
theorem f_Law_law_655 : fetch 213 655 = some (.iaload) := by decide +kernel
theorem e_Law_law_655 (a0 a1 a2 a3 : AV) (σ : aM) (x : Int) (r : List AV) (h : 0 ≤ x ∧ x < gI σ 34 0 (-1)) : ev 213 655 [a0, a1, a2, a3] (aI x :: aR 34 0 :: r) σ = ev 213 656 [a0, a1, a2, a3] (aI (gI σ 34 0 x) :: r) σ := ev_ldS f_Law_law_655 rfl h
theorem f_Law_law_656 : fetch 213 656 = some (.aload_n 0) := by decide +kernel
theorem e_Law_law_656 (a1 a2 a3 : AV) (σ : aM) (l0 : Option (Nat × Int)) (r : List AV)  : ev 213 656 [aQ l0, a1, a2, a3] (r) σ = ev 213 657 [aQ l0, a1, a2, a3] (aQ l0 :: r) σ := ev_go f_Law_law_656 rfl
theorem f_Law_law_657 : fetch 213 657 = some (.iload_n 3) := by decide +kernel
theorem e_Law_law_657 (a0 a1 a2 : AV) (σ : aM) (l3 : Int) (r : List AV)  : ev 213 657 [a0, a1, a2, aI l3] (r) σ = ev 213 658 [a0, a1, a2, aI l3] (aI l3 :: r) σ := ev_go f_Law_law_657 rfl
theorem f_Law_law_658 : fetch 213 658 = some (.iconst 4) := by decide +kernel
theorem e_Law_law_658 (a0 a1 a2 a3 : AV) (σ : aM) (r : List AV)  : ev 213 658 [a0, a1, a2, a3] (r) σ = ev 213 659 [a0, a1, a2, a3] (aI 4 :: r) σ := ev_go f_Law_law_658 rfl
theorem f_Law_law_659 : fetch 213 659 = some (.iadd) := by decide +kernel
theorem e_Law_law_659 (a0 a1 a2 a3 : AV) (σ : aM) (x z : Int) (r : List AV)  : ev 213 659 [a0, a1, a2, a3] (aI z :: aI x :: r) σ = ev 213 660 [a0, a1, a2, a3] (aI (wr (x + z)) :: r) σ := ev_go f_Law_law_659 rfl
theorem f_Law_law_660 : fetch 213 660 = some (.iaload) := by decide +kernel
theorem e_Law_law_660 (a0 a1 a2 a3 : AV) (σ : aM) (x : Int) (r : List AV) (h : 0 ≤ x ∧ x < gI σ 34 0 (-1)) : ev 213 660 [a0, a1, a2, a3] (aI x :: aR 34 0 :: r) σ = ev 213 661 [a0, a1, a2, a3] (aI (gI σ 34 0 x) :: r) σ := ev_ldS f_Law_law_660 rfl h
theorem f_Law_law_661 : fetch 213 661 = some (.invokevirtual 61) := by decide +kernel
theorem e_Law_law_661 (a0 a1 a2 a3 : AV) (σ : aM) (s0 : Int) (s1 : Int) (s2 : Int) (s3 : Int) (s4 : Int) (s5 : Int) : ev 213 661 [a0, a1, a2, a3] [aI s5, aI s4, aI s3, aI s2, aR 25 s1, aI s0] σ = evK 213 664 [a0, a1, a2, a3] [aI s0] (ev 166 0 [aR 25 s1, aI s2, aI s3, aI s4, aI s5, aU, aU] [] σ) := ev_call f_Law_law_661 rfl rfl
theorem f_Law_law_664 : fetch 213 664 = some (.if_icmp .eq 660) := by decide +kernel
theorem e_Law_law_664 (a0 a1 a2 a3 : AV) (σ : aM) (x z : Int) (r : List AV) : ev 213 664 [a0, a1, a2, a3] (aI z :: aI x :: r) σ = if x = z then ev 213 1324 [a0, a1, a2, a3] r σ else ev 213 667 [a0, a1, a2, a3] r σ := ev_br f_Law_law_664 rfl bc_eq
theorem f_Law_law_667 : fetch 213 667 = some (.iconst 0) := by decide +kernel
theorem e_Law_law_667 (a0 a1 a2 a3 : AV) (σ : aM) (r : List AV)  : ev 213 667 [a0, a1, a2, a3] (r) σ = ev 213 668 [a0, a1, a2, a3] (aI 0 :: r) σ := ev_go f_Law_law_667 rfl
theorem f_Law_law_668 : fetch 213 668 = some (.ireturn) := by decide +kernel
theorem e_Law_law_668 (a0 a1 a2 a3 : AV) (σ : aM) (x : Int) (h : x = 0 ∨ x = 1) : ev 213 668 [a0, a1, a2, a3] [aI x] σ = some ((some (aI x)), σ) := ev_rB f_Law_law_668 rfl h
theorem f_Law_law_669 : fetch 213 669 = some (.aload_n 1) := by decide +kernel
theorem e_Law_law_669 (a0 a2 a3 : AV) (σ : aM) (l1 : Option (Nat × Int)) (r : List AV)  : ev 213 669 [a0, aQ l1, a2, a3] (r) σ = ev 213 670 [a0, aQ l1, a2, a3] (aQ l1 :: r) σ := ev_go f_Law_law_669 rfl
theorem f_Law_law_670 : fetch 213 670 = some (.aload_n 0) := by decide +kernel
theorem e_Law_law_670 (a1 a2 a3 : AV) (σ : aM) (l0 : Option (Nat × Int)) (r : List AV)  : ev 213 670 [aQ l0, a1, a2, a3] (r) σ = ev 213 671 [aQ l0, a1, a2, a3] (aQ l0 :: r) σ := ev_go f_Law_law_670 rfl
theorem f_Law_law_671 : fetch 213 671 = some (.iload_n 3) := by decide +kernel
theorem e_Law_law_671 (a0 a1 a2 : AV) (σ : aM) (l3 : Int) (r : List AV)  : ev 213 671 [a0, a1, a2, aI l3] (r) σ = ev 213 672 [a0, a1, a2, aI l3] (aI l3 :: r) σ := ev_go f_Law_law_671 rfl
theorem f_Law_law_672 : fetch 213 672 = some (.iconst 1) := by decide +kernel
theorem e_Law_law_672 (a0 a1 a2 a3 : AV) (σ : aM) (r : List AV)  : ev 213 672 [a0, a1, a2, a3] (r) σ = ev 213 673 [a0, a1, a2, a3] (aI 1 :: r) σ := ev_go f_Law_law_672 rfl
theorem f_Law_law_673 : fetch 213 673 = some (.iadd) := by decide +kernel
theorem e_Law_law_673 (a0 a1 a2 a3 : AV) (σ : aM) (x z : Int) (r : List AV)  : ev 213 673 [a0, a1, a2, a3] (aI z :: aI x :: r) σ = ev 213 674 [a0, a1, a2, a3] (aI (wr (x + z)) :: r) σ := ev_go f_Law_law_673 rfl
theorem f_Law_law_674 : fetch 213 674 = some (.iaload) := by decide +kernel
theorem e_Law_law_674 (a0 a1 a2 a3 : AV) (σ : aM) (x : Int) (r : List AV) (h : 0 ≤ x ∧ x < gI σ 34 0 (-1)) : ev 213 674 [a0, a1, a2, a3] (aI x :: aR 34 0 :: r) σ = ev 213 675 [a0, a1, a2, a3] (aI (gI σ 34 0 x) :: r) σ := ev_ldS f_Law_law_674 rfl h
theorem f_Law_law_675 : fetch 213 675 = some (.aload_n 0) := by decide +kernel
theorem e_Law_law_675 (a1 a2 a3 : AV) (σ : aM) (l0 : Option (Nat × Int)) (r : List AV)  : ev 213 675 [aQ l0, a1, a2, a3] (r) σ = ev 213 676 [aQ l0, a1, a2, a3] (aQ l0 :: r) σ := ev_go f_Law_law_675 rfl
theorem f_Law_law_676 : fetch 213 676 = some (.iload_n 3) := by decide +kernel
theorem e_Law_law_676 (a0 a1 a2 : AV) (σ : aM) (l3 : Int) (r : List AV)  : ev 213 676 [a0, a1, a2, aI l3] (r) σ = ev 213 677 [a0, a1, a2, aI l3] (aI l3 :: r) σ := ev_go f_Law_law_676 rfl
theorem f_Law_law_677 : fetch 213 677 = some (.iconst 2) := by decide +kernel
theorem e_Law_law_677 (a0 a1 a2 a3 : AV) (σ : aM) (r : List AV)  : ev 213 677 [a0, a1, a2, a3] (r) σ = ev 213 678 [a0, a1, a2, a3] (aI 2 :: r) σ := ev_go f_Law_law_677 rfl
theorem f_Law_law_678 : fetch 213 678 = some (.iadd) := by decide +kernel
theorem e_Law_law_678 (a0 a1 a2 a3 : AV) (σ : aM) (x z : Int) (r : List AV)  : ev 213 678 [a0, a1, a2, a3] (aI z :: aI x :: r) σ = ev 213 679 [a0, a1, a2, a3] (aI (wr (x + z)) :: r) σ := ev_go f_Law_law_678 rfl
theorem f_Law_law_679 : fetch 213 679 = some (.iaload) := by decide +kernel
theorem e_Law_law_679 (a0 a1 a2 a3 : AV) (σ : aM) (x : Int) (r : List AV) (h : 0 ≤ x ∧ x < gI σ 34 0 (-1)) : ev 213 679 [a0, a1, a2, a3] (aI x :: aR 34 0 :: r) σ = ev 213 680 [a0, a1, a2, a3] (aI (gI σ 34 0 x) :: r) σ := ev_ldS f_Law_law_679 rfl h
theorem f_Law_law_680 : fetch 213 680 = some (.aload_n 0) := by decide +kernel
theorem e_Law_law_680 (a1 a2 a3 : AV) (σ : aM) (l0 : Option (Nat × Int)) (r : List AV)  : ev 213 680 [aQ l0, a1, a2, a3] (r) σ = ev 213 681 [aQ l0, a1, a2, a3] (aQ l0 :: r) σ := ev_go f_Law_law_680 rfl
theorem f_Law_law_681 : fetch 213 681 = some (.iload_n 3) := by decide +kernel
theorem e_Law_law_681 (a0 a1 a2 : AV) (σ : aM) (l3 : Int) (r : List AV)  : ev 213 681 [a0, a1, a2, aI l3] (r) σ = ev 213 682 [a0, a1, a2, aI l3] (aI l3 :: r) σ := ev_go f_Law_law_681 rfl
theorem f_Law_law_682 : fetch 213 682 = some (.iconst 3) := by decide +kernel
theorem e_Law_law_682 (a0 a1 a2 a3 : AV) (σ : aM) (r : List AV)  : ev 213 682 [a0, a1, a2, a3] (r) σ = ev 213 683 [a0, a1, a2, a3] (aI 3 :: r) σ := ev_go f_Law_law_682 rfl
theorem f_Law_law_683 : fetch 213 683 = some (.iadd) := by decide +kernel
theorem e_Law_law_683 (a0 a1 a2 a3 : AV) (σ : aM) (x z : Int) (r : List AV)  : ev 213 683 [a0, a1, a2, a3] (aI z :: aI x :: r) σ = ev 213 684 [a0, a1, a2, a3] (aI (wr (x + z)) :: r) σ := ev_go f_Law_law_683 rfl
theorem f_Law_law_684 : fetch 213 684 = some (.iaload) := by decide +kernel
theorem e_Law_law_684 (a0 a1 a2 a3 : AV) (σ : aM) (x : Int) (r : List AV) (h : 0 ≤ x ∧ x < gI σ 34 0 (-1)) : ev 213 684 [a0, a1, a2, a3] (aI x :: aR 34 0 :: r) σ = ev 213 685 [a0, a1, a2, a3] (aI (gI σ 34 0 x) :: r) σ := ev_ldS f_Law_law_684 rfl h
theorem f_Law_law_685 : fetch 213 685 = some (.aload_n 0) := by decide +kernel
theorem e_Law_law_685 (a1 a2 a3 : AV) (σ : aM) (l0 : Option (Nat × Int)) (r : List AV)  : ev 213 685 [aQ l0, a1, a2, a3] (r) σ = ev 213 686 [aQ l0, a1, a2, a3] (aQ l0 :: r) σ := ev_go f_Law_law_685 rfl
theorem f_Law_law_686 : fetch 213 686 = some (.iload_n 3) := by decide +kernel
theorem e_Law_law_686 (a0 a1 a2 : AV) (σ : aM) (l3 : Int) (r : List AV)  : ev 213 686 [a0, a1, a2, aI l3] (r) σ = ev 213 687 [a0, a1, a2, aI l3] (aI l3 :: r) σ := ev_go f_Law_law_686 rfl
theorem f_Law_law_687 : fetch 213 687 = some (.iconst 4) := by decide +kernel
theorem e_Law_law_687 (a0 a1 a2 a3 : AV) (σ : aM) (r : List AV)  : ev 213 687 [a0, a1, a2, a3] (r) σ = ev 213 688 [a0, a1, a2, a3] (aI 4 :: r) σ := ev_go f_Law_law_687 rfl
theorem f_Law_law_688 : fetch 213 688 = some (.iadd) := by decide +kernel
theorem e_Law_law_688 (a0 a1 a2 a3 : AV) (σ : aM) (x z : Int) (r : List AV)  : ev 213 688 [a0, a1, a2, a3] (aI z :: aI x :: r) σ = ev 213 689 [a0, a1, a2, a3] (aI (wr (x + z)) :: r) σ := ev_go f_Law_law_688 rfl
theorem f_Law_law_689 : fetch 213 689 = some (.iaload) := by decide +kernel
theorem e_Law_law_689 (a0 a1 a2 a3 : AV) (σ : aM) (x : Int) (r : List AV) (h : 0 ≤ x ∧ x < gI σ 34 0 (-1)) : ev 213 689 [a0, a1, a2, a3] (aI x :: aR 34 0 :: r) σ = ev 213 690 [a0, a1, a2, a3] (aI (gI σ 34 0 x) :: r) σ := ev_ldS f_Law_law_689 rfl h
theorem f_Law_law_690 : fetch 213 690 = some (.invokevirtual 62) := by decide +kernel
theorem e_Law_law_690 (a0 a1 a2 a3 : AV) (σ : aM) (s0 : Int) (s1 : Int) (s2 : Int) (s3 : Int) (s4 : Int) : ev 213 690 [a0, a1, a2, a3] [aI s4, aI s3, aI s2, aI s1, aR 0 s0] σ = evK 213 693 [a0, a1, a2, a3] [] (ev 88 0 [aR 0 s0, aI s1, aI s2, aI s3, aI s4, aU, aU] [] σ) := ev_call f_Law_law_690 rfl rfl
theorem f_Law_law_693 : fetch 213 693 = some (.aload_n 2) := by decide +kernel
theorem e_Law_law_693 (a0 a1 a3 : AV) (σ : aM) (l2 : Option (Nat × Int)) (r : List AV)  : ev 213 693 [a0, a1, aQ l2, a3] (r) σ = ev 213 694 [a0, a1, aQ l2, a3] (aQ l2 :: r) σ := ev_go f_Law_law_693 rfl
theorem f_Law_law_694 : fetch 213 694 = some (.aload_n 0) := by decide +kernel
theorem e_Law_law_694 (a1 a2 a3 : AV) (σ : aM) (l0 : Option (Nat × Int)) (r : List AV)  : ev 213 694 [aQ l0, a1, a2, a3] (r) σ = ev 213 695 [aQ l0, a1, a2, a3] (aQ l0 :: r) σ := ev_go f_Law_law_694 rfl
theorem f_Law_law_695 : fetch 213 695 = some (.iload_n 3) := by decide +kernel
theorem e_Law_law_695 (a0 a1 a2 : AV) (σ : aM) (l3 : Int) (r : List AV)  : ev 213 695 [a0, a1, a2, aI l3] (r) σ = ev 213 696 [a0, a1, a2, aI l3] (aI l3 :: r) σ := ev_go f_Law_law_695 rfl
theorem f_Law_law_696 : fetch 213 696 = some (.iconst 1) := by decide +kernel
theorem e_Law_law_696 (a0 a1 a2 a3 : AV) (σ : aM) (r : List AV)  : ev 213 696 [a0, a1, a2, a3] (r) σ = ev 213 697 [a0, a1, a2, a3] (aI 1 :: r) σ := ev_go f_Law_law_696 rfl
theorem f_Law_law_697 : fetch 213 697 = some (.iadd) := by decide +kernel
theorem e_Law_law_697 (a0 a1 a2 a3 : AV) (σ : aM) (x z : Int) (r : List AV)  : ev 213 697 [a0, a1, a2, a3] (aI z :: aI x :: r) σ = ev 213 698 [a0, a1, a2, a3] (aI (wr (x + z)) :: r) σ := ev_go f_Law_law_697 rfl
theorem f_Law_law_698 : fetch 213 698 = some (.iaload) := by decide +kernel
theorem e_Law_law_698 (a0 a1 a2 a3 : AV) (σ : aM) (x : Int) (r : List AV) (h : 0 ≤ x ∧ x < gI σ 34 0 (-1)) : ev 213 698 [a0, a1, a2, a3] (aI x :: aR 34 0 :: r) σ = ev 213 699 [a0, a1, a2, a3] (aI (gI σ 34 0 x) :: r) σ := ev_ldS f_Law_law_698 rfl h
theorem f_Law_law_699 : fetch 213 699 = some (.aload_n 0) := by decide +kernel
theorem e_Law_law_699 (a1 a2 a3 : AV) (σ : aM) (l0 : Option (Nat × Int)) (r : List AV)  : ev 213 699 [aQ l0, a1, a2, a3] (r) σ = ev 213 700 [aQ l0, a1, a2, a3] (aQ l0 :: r) σ := ev_go f_Law_law_699 rfl
theorem f_Law_law_700 : fetch 213 700 = some (.iload_n 3) := by decide +kernel
theorem e_Law_law_700 (a0 a1 a2 : AV) (σ : aM) (l3 : Int) (r : List AV)  : ev 213 700 [a0, a1, a2, aI l3] (r) σ = ev 213 701 [a0, a1, a2, aI l3] (aI l3 :: r) σ := ev_go f_Law_law_700 rfl
theorem f_Law_law_701 : fetch 213 701 = some (.iconst 2) := by decide +kernel
theorem e_Law_law_701 (a0 a1 a2 a3 : AV) (σ : aM) (r : List AV)  : ev 213 701 [a0, a1, a2, a3] (r) σ = ev 213 702 [a0, a1, a2, a3] (aI 2 :: r) σ := ev_go f_Law_law_701 rfl
theorem f_Law_law_702 : fetch 213 702 = some (.iadd) := by decide +kernel
theorem e_Law_law_702 (a0 a1 a2 a3 : AV) (σ : aM) (x z : Int) (r : List AV)  : ev 213 702 [a0, a1, a2, a3] (aI z :: aI x :: r) σ = ev 213 703 [a0, a1, a2, a3] (aI (wr (x + z)) :: r) σ := ev_go f_Law_law_702 rfl
theorem f_Law_law_703 : fetch 213 703 = some (.iaload) := by decide +kernel
theorem e_Law_law_703 (a0 a1 a2 a3 : AV) (σ : aM) (x : Int) (r : List AV) (h : 0 ≤ x ∧ x < gI σ 34 0 (-1)) : ev 213 703 [a0, a1, a2, a3] (aI x :: aR 34 0 :: r) σ = ev 213 704 [a0, a1, a2, a3] (aI (gI σ 34 0 x) :: r) σ := ev_ldS f_Law_law_703 rfl h
theorem f_Law_law_704 : fetch 213 704 = some (.aload_n 0) := by decide +kernel
theorem e_Law_law_704 (a1 a2 a3 : AV) (σ : aM) (l0 : Option (Nat × Int)) (r : List AV)  : ev 213 704 [aQ l0, a1, a2, a3] (r) σ = ev 213 705 [aQ l0, a1, a2, a3] (aQ l0 :: r) σ := ev_go f_Law_law_704 rfl
theorem f_Law_law_705 : fetch 213 705 = some (.iload_n 3) := by decide +kernel
theorem e_Law_law_705 (a0 a1 a2 : AV) (σ : aM) (l3 : Int) (r : List AV)  : ev 213 705 [a0, a1, a2, aI l3] (r) σ = ev 213 706 [a0, a1, a2, aI l3] (aI l3 :: r) σ := ev_go f_Law_law_705 rfl
theorem f_Law_law_706 : fetch 213 706 = some (.iconst 3) := by decide +kernel
theorem e_Law_law_706 (a0 a1 a2 a3 : AV) (σ : aM) (r : List AV)  : ev 213 706 [a0, a1, a2, a3] (r) σ = ev 213 707 [a0, a1, a2, a3] (aI 3 :: r) σ := ev_go f_Law_law_706 rfl
theorem f_Law_law_707 : fetch 213 707 = some (.iadd) := by decide +kernel
theorem e_Law_law_707 (a0 a1 a2 a3 : AV) (σ : aM) (x z : Int) (r : List AV)  : ev 213 707 [a0, a1, a2, a3] (aI z :: aI x :: r) σ = ev 213 708 [a0, a1, a2, a3] (aI (wr (x + z)) :: r) σ := ev_go f_Law_law_707 rfl
theorem f_Law_law_708 : fetch 213 708 = some (.iaload) := by decide +kernel
theorem e_Law_law_708 (a0 a1 a2 a3 : AV) (σ : aM) (x : Int) (r : List AV) (h : 0 ≤ x ∧ x < gI σ 34 0 (-1)) : ev 213 708 [a0, a1, a2, a3] (aI x :: aR 34 0 :: r) σ = ev 213 709 [a0, a1, a2, a3] (aI (gI σ 34 0 x) :: r) σ := ev_ldS f_Law_law_708 rfl h
theorem f_Law_law_709 : fetch 213 709 = some (.aload_n 0) := by decide +kernel
theorem e_Law_law_709 (a1 a2 a3 : AV) (σ : aM) (l0 : Option (Nat × Int)) (r : List AV)  : ev 213 709 [aQ l0, a1, a2, a3] (r) σ = ev 213 710 [aQ l0, a1, a2, a3] (aQ l0 :: r) σ := ev_go f_Law_law_709 rfl
theorem f_Law_law_710 : fetch 213 710 = some (.iload_n 3) := by decide +kernel
theorem e_Law_law_710 (a0 a1 a2 : AV) (σ : aM) (l3 : Int) (r : List AV)  : ev 213 710 [a0, a1, a2, aI l3] (r) σ = ev 213 711 [a0, a1, a2, aI l3] (aI l3 :: r) σ := ev_go f_Law_law_710 rfl
theorem f_Law_law_711 : fetch 213 711 = some (.iconst 4) := by decide +kernel
theorem e_Law_law_711 (a0 a1 a2 a3 : AV) (σ : aM) (r : List AV)  : ev 213 711 [a0, a1, a2, a3] (r) σ = ev 213 712 [a0, a1, a2, a3] (aI 4 :: r) σ := ev_go f_Law_law_711 rfl
theorem f_Law_law_712 : fetch 213 712 = some (.iadd) := by decide +kernel
theorem e_Law_law_712 (a0 a1 a2 a3 : AV) (σ : aM) (x z : Int) (r : List AV)  : ev 213 712 [a0, a1, a2, a3] (aI z :: aI x :: r) σ = ev 213 713 [a0, a1, a2, a3] (aI (wr (x + z)) :: r) σ := ev_go f_Law_law_712 rfl
theorem f_Law_law_713 : fetch 213 713 = some (.iaload) := by decide +kernel
theorem e_Law_law_713 (a0 a1 a2 a3 : AV) (σ : aM) (x : Int) (r : List AV) (h : 0 ≤ x ∧ x < gI σ 34 0 (-1)) : ev 213 713 [a0, a1, a2, a3] (aI x :: aR 34 0 :: r) σ = ev 213 714 [a0, a1, a2, a3] (aI (gI σ 34 0 x) :: r) σ := ev_ldS f_Law_law_713 rfl h
theorem f_Law_law_714 : fetch 213 714 = some (.invokevirtual 65) := by decide +kernel
theorem e_Law_law_714 (a0 a1 a2 a3 : AV) (σ : aM) (s0 : Int) (s1 : Int) (s2 : Int) (s3 : Int) (s4 : Int) (s5 : Int) : ev 213 714 [a0, a1, a2, a3] [aI s5, aI s4, aI s3, aI s2, aR 25 s1, aI s0] σ = evK 213 717 [a0, a1, a2, a3] [aI s0] (ev 167 0 [aR 25 s1, aI s2, aI s3, aI s4, aI s5, aU, aU] [] σ) := ev_call f_Law_law_714 rfl rfl
theorem f_Law_law_717 : fetch 213 717 = some (.if_icmp .eq 607) := by decide +kernel
theorem e_Law_law_717 (a0 a1 a2 a3 : AV) (σ : aM) (x z : Int) (r : List AV) : ev 213 717 [a0, a1, a2, a3] (aI z :: aI x :: r) σ = if x = z then ev 213 1324 [a0, a1, a2, a3] r σ else ev 213 720 [a0, a1, a2, a3] r σ := ev_br f_Law_law_717 rfl bc_eq
theorem f_Law_law_720 : fetch 213 720 = some (.iconst 0) := by decide +kernel
theorem e_Law_law_720 (a0 a1 a2 a3 : AV) (σ : aM) (r : List AV)  : ev 213 720 [a0, a1, a2, a3] (r) σ = ev 213 721 [a0, a1, a2, a3] (aI 0 :: r) σ := ev_go f_Law_law_720 rfl
theorem f_Law_law_721 : fetch 213 721 = some (.ireturn) := by decide +kernel
theorem e_Law_law_721 (a0 a1 a2 a3 : AV) (σ : aM) (x : Int) (h : x = 0 ∨ x = 1) : ev 213 721 [a0, a1, a2, a3] [aI x] σ = some ((some (aI x)), σ) := ev_rB f_Law_law_721 rfl h
theorem f_Law_law_722 : fetch 213 722 = some (.aload_n 1) := by decide +kernel
theorem e_Law_law_722 (a0 a2 a3 : AV) (σ : aM) (l1 : Option (Nat × Int)) (r : List AV)  : ev 213 722 [a0, aQ l1, a2, a3] (r) σ = ev 213 723 [a0, aQ l1, a2, a3] (aQ l1 :: r) σ := ev_go f_Law_law_722 rfl
theorem f_Law_law_723 : fetch 213 723 = some (.aload_n 0) := by decide +kernel
theorem e_Law_law_723 (a1 a2 a3 : AV) (σ : aM) (l0 : Option (Nat × Int)) (r : List AV)  : ev 213 723 [aQ l0, a1, a2, a3] (r) σ = ev 213 724 [aQ l0, a1, a2, a3] (aQ l0 :: r) σ := ev_go f_Law_law_723 rfl
theorem f_Law_law_724 : fetch 213 724 = some (.iload_n 3) := by decide +kernel
theorem e_Law_law_724 (a0 a1 a2 : AV) (σ : aM) (l3 : Int) (r : List AV)  : ev 213 724 [a0, a1, a2, aI l3] (r) σ = ev 213 725 [a0, a1, a2, aI l3] (aI l3 :: r) σ := ev_go f_Law_law_724 rfl
theorem f_Law_law_725 : fetch 213 725 = some (.iconst 1) := by decide +kernel
theorem e_Law_law_725 (a0 a1 a2 a3 : AV) (σ : aM) (r : List AV)  : ev 213 725 [a0, a1, a2, a3] (r) σ = ev 213 726 [a0, a1, a2, a3] (aI 1 :: r) σ := ev_go f_Law_law_725 rfl
theorem f_Law_law_726 : fetch 213 726 = some (.iadd) := by decide +kernel
theorem e_Law_law_726 (a0 a1 a2 a3 : AV) (σ : aM) (x z : Int) (r : List AV)  : ev 213 726 [a0, a1, a2, a3] (aI z :: aI x :: r) σ = ev 213 727 [a0, a1, a2, a3] (aI (wr (x + z)) :: r) σ := ev_go f_Law_law_726 rfl
theorem f_Law_law_727 : fetch 213 727 = some (.iaload) := by decide +kernel
theorem e_Law_law_727 (a0 a1 a2 a3 : AV) (σ : aM) (x : Int) (r : List AV) (h : 0 ≤ x ∧ x < gI σ 34 0 (-1)) : ev 213 727 [a0, a1, a2, a3] (aI x :: aR 34 0 :: r) σ = ev 213 728 [a0, a1, a2, a3] (aI (gI σ 34 0 x) :: r) σ := ev_ldS f_Law_law_727 rfl h
theorem f_Law_law_728 : fetch 213 728 = some (.aload_n 0) := by decide +kernel
theorem e_Law_law_728 (a1 a2 a3 : AV) (σ : aM) (l0 : Option (Nat × Int)) (r : List AV)  : ev 213 728 [aQ l0, a1, a2, a3] (r) σ = ev 213 729 [aQ l0, a1, a2, a3] (aQ l0 :: r) σ := ev_go f_Law_law_728 rfl
theorem f_Law_law_729 : fetch 213 729 = some (.iload_n 3) := by decide +kernel
theorem e_Law_law_729 (a0 a1 a2 : AV) (σ : aM) (l3 : Int) (r : List AV)  : ev 213 729 [a0, a1, a2, aI l3] (r) σ = ev 213 730 [a0, a1, a2, aI l3] (aI l3 :: r) σ := ev_go f_Law_law_729 rfl
theorem f_Law_law_730 : fetch 213 730 = some (.iconst 2) := by decide +kernel
theorem e_Law_law_730 (a0 a1 a2 a3 : AV) (σ : aM) (r : List AV)  : ev 213 730 [a0, a1, a2, a3] (r) σ = ev 213 731 [a0, a1, a2, a3] (aI 2 :: r) σ := ev_go f_Law_law_730 rfl
theorem f_Law_law_731 : fetch 213 731 = some (.iadd) := by decide +kernel
theorem e_Law_law_731 (a0 a1 a2 a3 : AV) (σ : aM) (x z : Int) (r : List AV)  : ev 213 731 [a0, a1, a2, a3] (aI z :: aI x :: r) σ = ev 213 732 [a0, a1, a2, a3] (aI (wr (x + z)) :: r) σ := ev_go f_Law_law_731 rfl
theorem f_Law_law_732 : fetch 213 732 = some (.iaload) := by decide +kernel
theorem e_Law_law_732 (a0 a1 a2 a3 : AV) (σ : aM) (x : Int) (r : List AV) (h : 0 ≤ x ∧ x < gI σ 34 0 (-1)) : ev 213 732 [a0, a1, a2, a3] (aI x :: aR 34 0 :: r) σ = ev 213 733 [a0, a1, a2, a3] (aI (gI σ 34 0 x) :: r) σ := ev_ldS f_Law_law_732 rfl h
theorem f_Law_law_733 : fetch 213 733 = some (.aload_n 0) := by decide +kernel
theorem e_Law_law_733 (a1 a2 a3 : AV) (σ : aM) (l0 : Option (Nat × Int)) (r : List AV)  : ev 213 733 [aQ l0, a1, a2, a3] (r) σ = ev 213 734 [aQ l0, a1, a2, a3] (aQ l0 :: r) σ := ev_go f_Law_law_733 rfl
theorem f_Law_law_734 : fetch 213 734 = some (.iload_n 3) := by decide +kernel
theorem e_Law_law_734 (a0 a1 a2 : AV) (σ : aM) (l3 : Int) (r : List AV)  : ev 213 734 [a0, a1, a2, aI l3] (r) σ = ev 213 735 [a0, a1, a2, aI l3] (aI l3 :: r) σ := ev_go f_Law_law_734 rfl
theorem f_Law_law_735 : fetch 213 735 = some (.iconst 3) := by decide +kernel
theorem e_Law_law_735 (a0 a1 a2 a3 : AV) (σ : aM) (r : List AV)  : ev 213 735 [a0, a1, a2, a3] (r) σ = ev 213 736 [a0, a1, a2, a3] (aI 3 :: r) σ := ev_go f_Law_law_735 rfl
theorem f_Law_law_736 : fetch 213 736 = some (.iadd) := by decide +kernel
theorem e_Law_law_736 (a0 a1 a2 a3 : AV) (σ : aM) (x z : Int) (r : List AV)  : ev 213 736 [a0, a1, a2, a3] (aI z :: aI x :: r) σ = ev 213 737 [a0, a1, a2, a3] (aI (wr (x + z)) :: r) σ := ev_go f_Law_law_736 rfl
theorem f_Law_law_737 : fetch 213 737 = some (.iaload) := by decide +kernel
theorem e_Law_law_737 (a0 a1 a2 a3 : AV) (σ : aM) (x : Int) (r : List AV) (h : 0 ≤ x ∧ x < gI σ 34 0 (-1)) : ev 213 737 [a0, a1, a2, a3] (aI x :: aR 34 0 :: r) σ = ev 213 738 [a0, a1, a2, a3] (aI (gI σ 34 0 x) :: r) σ := ev_ldS f_Law_law_737 rfl h
theorem f_Law_law_738 : fetch 213 738 = some (.invokevirtual 66) := by decide +kernel
theorem e_Law_law_738 (a0 a1 a2 a3 : AV) (σ : aM) (s0 : Int) (s1 : Int) (s2 : Int) (s3 : Int) : ev 213 738 [a0, a1, a2, a3] [aI s3, aI s2, aI s1, aR 0 s0] σ = evK 213 741 [a0, a1, a2, a3] [] (ev 89 0 [aR 0 s0, aI s1, aI s2, aI s3] [] σ) := ev_call f_Law_law_738 rfl rfl
theorem f_Law_law_741 : fetch 213 741 = some (.aload_n 2) := by decide +kernel
theorem e_Law_law_741 (a0 a1 a3 : AV) (σ : aM) (l2 : Option (Nat × Int)) (r : List AV)  : ev 213 741 [a0, a1, aQ l2, a3] (r) σ = ev 213 742 [a0, a1, aQ l2, a3] (aQ l2 :: r) σ := ev_go f_Law_law_741 rfl
theorem f_Law_law_742 : fetch 213 742 = some (.aload_n 0) := by decide +kernel
theorem e_Law_law_742 (a1 a2 a3 : AV) (σ : aM) (l0 : Option (Nat × Int)) (r : List AV)  : ev 213 742 [aQ l0, a1, a2, a3] (r) σ = ev 213 743 [aQ l0, a1, a2, a3] (aQ l0 :: r) σ := ev_go f_Law_law_742 rfl
theorem f_Law_law_743 : fetch 213 743 = some (.iload_n 3) := by decide +kernel
theorem e_Law_law_743 (a0 a1 a2 : AV) (σ : aM) (l3 : Int) (r : List AV)  : ev 213 743 [a0, a1, a2, aI l3] (r) σ = ev 213 744 [a0, a1, a2, aI l3] (aI l3 :: r) σ := ev_go f_Law_law_743 rfl
theorem f_Law_law_744 : fetch 213 744 = some (.iconst 1) := by decide +kernel
theorem e_Law_law_744 (a0 a1 a2 a3 : AV) (σ : aM) (r : List AV)  : ev 213 744 [a0, a1, a2, a3] (r) σ = ev 213 745 [a0, a1, a2, a3] (aI 1 :: r) σ := ev_go f_Law_law_744 rfl
theorem f_Law_law_745 : fetch 213 745 = some (.iadd) := by decide +kernel
theorem e_Law_law_745 (a0 a1 a2 a3 : AV) (σ : aM) (x z : Int) (r : List AV)  : ev 213 745 [a0, a1, a2, a3] (aI z :: aI x :: r) σ = ev 213 746 [a0, a1, a2, a3] (aI (wr (x + z)) :: r) σ := ev_go f_Law_law_745 rfl
theorem f_Law_law_746 : fetch 213 746 = some (.iaload) := by decide +kernel
theorem e_Law_law_746 (a0 a1 a2 a3 : AV) (σ : aM) (x : Int) (r : List AV) (h : 0 ≤ x ∧ x < gI σ 34 0 (-1)) : ev 213 746 [a0, a1, a2, a3] (aI x :: aR 34 0 :: r) σ = ev 213 747 [a0, a1, a2, a3] (aI (gI σ 34 0 x) :: r) σ := ev_ldS f_Law_law_746 rfl h
theorem f_Law_law_747 : fetch 213 747 = some (.aload_n 0) := by decide +kernel
theorem e_Law_law_747 (a1 a2 a3 : AV) (σ : aM) (l0 : Option (Nat × Int)) (r : List AV)  : ev 213 747 [aQ l0, a1, a2, a3] (r) σ = ev 213 748 [aQ l0, a1, a2, a3] (aQ l0 :: r) σ := ev_go f_Law_law_747 rfl
theorem f_Law_law_748 : fetch 213 748 = some (.iload_n 3) := by decide +kernel
theorem e_Law_law_748 (a0 a1 a2 : AV) (σ : aM) (l3 : Int) (r : List AV)  : ev 213 748 [a0, a1, a2, aI l3] (r) σ = ev 213 749 [a0, a1, a2, aI l3] (aI l3 :: r) σ := ev_go f_Law_law_748 rfl
theorem f_Law_law_749 : fetch 213 749 = some (.iconst 2) := by decide +kernel
theorem e_Law_law_749 (a0 a1 a2 a3 : AV) (σ : aM) (r : List AV)  : ev 213 749 [a0, a1, a2, a3] (r) σ = ev 213 750 [a0, a1, a2, a3] (aI 2 :: r) σ := ev_go f_Law_law_749 rfl
theorem f_Law_law_750 : fetch 213 750 = some (.iadd) := by decide +kernel
theorem e_Law_law_750 (a0 a1 a2 a3 : AV) (σ : aM) (x z : Int) (r : List AV)  : ev 213 750 [a0, a1, a2, a3] (aI z :: aI x :: r) σ = ev 213 751 [a0, a1, a2, a3] (aI (wr (x + z)) :: r) σ := ev_go f_Law_law_750 rfl
theorem f_Law_law_751 : fetch 213 751 = some (.iaload) := by decide +kernel
theorem e_Law_law_751 (a0 a1 a2 a3 : AV) (σ : aM) (x : Int) (r : List AV) (h : 0 ≤ x ∧ x < gI σ 34 0 (-1)) : ev 213 751 [a0, a1, a2, a3] (aI x :: aR 34 0 :: r) σ = ev 213 752 [a0, a1, a2, a3] (aI (gI σ 34 0 x) :: r) σ := ev_ldS f_Law_law_751 rfl h
theorem f_Law_law_752 : fetch 213 752 = some (.aload_n 0) := by decide +kernel
theorem e_Law_law_752 (a1 a2 a3 : AV) (σ : aM) (l0 : Option (Nat × Int)) (r : List AV)  : ev 213 752 [aQ l0, a1, a2, a3] (r) σ = ev 213 753 [aQ l0, a1, a2, a3] (aQ l0 :: r) σ := ev_go f_Law_law_752 rfl
theorem f_Law_law_753 : fetch 213 753 = some (.iload_n 3) := by decide +kernel
theorem e_Law_law_753 (a0 a1 a2 : AV) (σ : aM) (l3 : Int) (r : List AV)  : ev 213 753 [a0, a1, a2, aI l3] (r) σ = ev 213 754 [a0, a1, a2, aI l3] (aI l3 :: r) σ := ev_go f_Law_law_753 rfl
theorem f_Law_law_754 : fetch 213 754 = some (.iconst 3) := by decide +kernel
theorem e_Law_law_754 (a0 a1 a2 a3 : AV) (σ : aM) (r : List AV)  : ev 213 754 [a0, a1, a2, a3] (r) σ = ev 213 755 [a0, a1, a2, a3] (aI 3 :: r) σ := ev_go f_Law_law_754 rfl
theorem f_Law_law_755 : fetch 213 755 = some (.iadd) := by decide +kernel
theorem e_Law_law_755 (a0 a1 a2 a3 : AV) (σ : aM) (x z : Int) (r : List AV)  : ev 213 755 [a0, a1, a2, a3] (aI z :: aI x :: r) σ = ev 213 756 [a0, a1, a2, a3] (aI (wr (x + z)) :: r) σ := ev_go f_Law_law_755 rfl
theorem f_Law_law_756 : fetch 213 756 = some (.iaload) := by decide +kernel
theorem e_Law_law_756 (a0 a1 a2 a3 : AV) (σ : aM) (x : Int) (r : List AV) (h : 0 ≤ x ∧ x < gI σ 34 0 (-1)) : ev 213 756 [a0, a1, a2, a3] (aI x :: aR 34 0 :: r) σ = ev 213 757 [a0, a1, a2, a3] (aI (gI σ 34 0 x) :: r) σ := ev_ldS f_Law_law_756 rfl h
theorem f_Law_law_757 : fetch 213 757 = some (.invokevirtual 69) := by decide +kernel
theorem e_Law_law_757 (a0 a1 a2 a3 : AV) (σ : aM) (s0 : Int) (s1 : Int) (s2 : Int) (s3 : Int) (s4 : Int) : ev 213 757 [a0, a1, a2, a3] [aI s4, aI s3, aI s2, aR 25 s1, aI s0] σ = evK 213 760 [a0, a1, a2, a3] [aI s0] (ev 168 0 [aR 25 s1, aI s2, aI s3, aI s4, aU] [] σ) := ev_call f_Law_law_757 rfl rfl
theorem f_Law_law_760 : fetch 213 760 = some (.if_icmp .eq 564) := by decide +kernel
theorem e_Law_law_760 (a0 a1 a2 a3 : AV) (σ : aM) (x z : Int) (r : List AV) : ev 213 760 [a0, a1, a2, a3] (aI z :: aI x :: r) σ = if x = z then ev 213 1324 [a0, a1, a2, a3] r σ else ev 213 763 [a0, a1, a2, a3] r σ := ev_br f_Law_law_760 rfl bc_eq
theorem f_Law_law_763 : fetch 213 763 = some (.iconst 0) := by decide +kernel
theorem e_Law_law_763 (a0 a1 a2 a3 : AV) (σ : aM) (r : List AV)  : ev 213 763 [a0, a1, a2, a3] (r) σ = ev 213 764 [a0, a1, a2, a3] (aI 0 :: r) σ := ev_go f_Law_law_763 rfl
theorem f_Law_law_764 : fetch 213 764 = some (.ireturn) := by decide +kernel
theorem e_Law_law_764 (a0 a1 a2 a3 : AV) (σ : aM) (x : Int) (h : x = 0 ∨ x = 1) : ev 213 764 [a0, a1, a2, a3] [aI x] σ = some ((some (aI x)), σ) := ev_rB f_Law_law_764 rfl h
theorem f_Law_law_765 : fetch 213 765 = some (.aload_n 1) := by decide +kernel
theorem e_Law_law_765 (a0 a2 a3 : AV) (σ : aM) (l1 : Option (Nat × Int)) (r : List AV)  : ev 213 765 [a0, aQ l1, a2, a3] (r) σ = ev 213 766 [a0, aQ l1, a2, a3] (aQ l1 :: r) σ := ev_go f_Law_law_765 rfl
theorem f_Law_law_766 : fetch 213 766 = some (.aload_n 0) := by decide +kernel
theorem e_Law_law_766 (a1 a2 a3 : AV) (σ : aM) (l0 : Option (Nat × Int)) (r : List AV)  : ev 213 766 [aQ l0, a1, a2, a3] (r) σ = ev 213 767 [aQ l0, a1, a2, a3] (aQ l0 :: r) σ := ev_go f_Law_law_766 rfl
theorem f_Law_law_767 : fetch 213 767 = some (.iload_n 3) := by decide +kernel
theorem e_Law_law_767 (a0 a1 a2 : AV) (σ : aM) (l3 : Int) (r : List AV)  : ev 213 767 [a0, a1, a2, aI l3] (r) σ = ev 213 768 [a0, a1, a2, aI l3] (aI l3 :: r) σ := ev_go f_Law_law_767 rfl
theorem f_Law_law_768 : fetch 213 768 = some (.iconst 1) := by decide +kernel
theorem e_Law_law_768 (a0 a1 a2 a3 : AV) (σ : aM) (r : List AV)  : ev 213 768 [a0, a1, a2, a3] (r) σ = ev 213 769 [a0, a1, a2, a3] (aI 1 :: r) σ := ev_go f_Law_law_768 rfl
theorem f_Law_law_769 : fetch 213 769 = some (.iadd) := by decide +kernel
theorem e_Law_law_769 (a0 a1 a2 a3 : AV) (σ : aM) (x z : Int) (r : List AV)  : ev 213 769 [a0, a1, a2, a3] (aI z :: aI x :: r) σ = ev 213 770 [a0, a1, a2, a3] (aI (wr (x + z)) :: r) σ := ev_go f_Law_law_769 rfl
theorem f_Law_law_770 : fetch 213 770 = some (.iaload) := by decide +kernel
theorem e_Law_law_770 (a0 a1 a2 a3 : AV) (σ : aM) (x : Int) (r : List AV) (h : 0 ≤ x ∧ x < gI σ 34 0 (-1)) : ev 213 770 [a0, a1, a2, a3] (aI x :: aR 34 0 :: r) σ = ev 213 771 [a0, a1, a2, a3] (aI (gI σ 34 0 x) :: r) σ := ev_ldS f_Law_law_770 rfl h
theorem f_Law_law_771 : fetch 213 771 = some (.invokevirtual 70) := by decide +kernel
theorem e_Law_law_771 (a0 a1 a2 a3 : AV) (σ : aM) (s0 : Int) (s1 : Int) : ev 213 771 [a0, a1, a2, a3] [aI s1, aR 0 s0] σ = evK 213 774 [a0, a1, a2, a3] [] (ev 90 0 [aR 0 s0, aI s1, aU, aU, aU] [] σ) := ev_call f_Law_law_771 rfl rfl
theorem f_Law_law_774 : fetch 213 774 = some (.aload_n 2) := by decide +kernel
theorem e_Law_law_774 (a0 a1 a3 : AV) (σ : aM) (l2 : Option (Nat × Int)) (r : List AV)  : ev 213 774 [a0, a1, aQ l2, a3] (r) σ = ev 213 775 [a0, a1, aQ l2, a3] (aQ l2 :: r) σ := ev_go f_Law_law_774 rfl
theorem f_Law_law_775 : fetch 213 775 = some (.aload_n 0) := by decide +kernel
theorem e_Law_law_775 (a1 a2 a3 : AV) (σ : aM) (l0 : Option (Nat × Int)) (r : List AV)  : ev 213 775 [aQ l0, a1, a2, a3] (r) σ = ev 213 776 [aQ l0, a1, a2, a3] (aQ l0 :: r) σ := ev_go f_Law_law_775 rfl
theorem f_Law_law_776 : fetch 213 776 = some (.iload_n 3) := by decide +kernel
theorem e_Law_law_776 (a0 a1 a2 : AV) (σ : aM) (l3 : Int) (r : List AV)  : ev 213 776 [a0, a1, a2, aI l3] (r) σ = ev 213 777 [a0, a1, a2, aI l3] (aI l3 :: r) σ := ev_go f_Law_law_776 rfl
theorem f_Law_law_777 : fetch 213 777 = some (.iconst 1) := by decide +kernel
theorem e_Law_law_777 (a0 a1 a2 a3 : AV) (σ : aM) (r : List AV)  : ev 213 777 [a0, a1, a2, a3] (r) σ = ev 213 778 [a0, a1, a2, a3] (aI 1 :: r) σ := ev_go f_Law_law_777 rfl
theorem f_Law_law_778 : fetch 213 778 = some (.iadd) := by decide +kernel
theorem e_Law_law_778 (a0 a1 a2 a3 : AV) (σ : aM) (x z : Int) (r : List AV)  : ev 213 778 [a0, a1, a2, a3] (aI z :: aI x :: r) σ = ev 213 779 [a0, a1, a2, a3] (aI (wr (x + z)) :: r) σ := ev_go f_Law_law_778 rfl
theorem f_Law_law_779 : fetch 213 779 = some (.iaload) := by decide +kernel
theorem e_Law_law_779 (a0 a1 a2 a3 : AV) (σ : aM) (x : Int) (r : List AV) (h : 0 ≤ x ∧ x < gI σ 34 0 (-1)) : ev 213 779 [a0, a1, a2, a3] (aI x :: aR 34 0 :: r) σ = ev 213 780 [a0, a1, a2, a3] (aI (gI σ 34 0 x) :: r) σ := ev_ldS f_Law_law_779 rfl h
theorem f_Law_law_780 : fetch 213 780 = some (.invokevirtual 73) := by decide +kernel
theorem e_Law_law_780 (a0 a1 a2 a3 : AV) (σ : aM) (s0 : Int) (s1 : Int) (s2 : Int) : ev 213 780 [a0, a1, a2, a3] [aI s2, aR 25 s1, aI s0] σ = evK 213 783 [a0, a1, a2, a3] [aI s0] (ev 176 0 [aR 25 s1, aI s2, aU, aU] [] σ) := ev_call f_Law_law_780 rfl rfl
theorem f_Law_law_783 : fetch 213 783 = some (.if_icmp .eq 541) := by decide +kernel
theorem e_Law_law_783 (a0 a1 a2 a3 : AV) (σ : aM) (x z : Int) (r : List AV) : ev 213 783 [a0, a1, a2, a3] (aI z :: aI x :: r) σ = if x = z then ev 213 1324 [a0, a1, a2, a3] r σ else ev 213 786 [a0, a1, a2, a3] r σ := ev_br f_Law_law_783 rfl bc_eq
theorem f_Law_law_786 : fetch 213 786 = some (.iconst 0) := by decide +kernel
theorem e_Law_law_786 (a0 a1 a2 a3 : AV) (σ : aM) (r : List AV)  : ev 213 786 [a0, a1, a2, a3] (r) σ = ev 213 787 [a0, a1, a2, a3] (aI 0 :: r) σ := ev_go f_Law_law_786 rfl
theorem f_Law_law_787 : fetch 213 787 = some (.ireturn) := by decide +kernel
theorem e_Law_law_787 (a0 a1 a2 a3 : AV) (σ : aM) (x : Int) (h : x = 0 ∨ x = 1) : ev 213 787 [a0, a1, a2, a3] [aI x] σ = some ((some (aI x)), σ) := ev_rB f_Law_law_787 rfl h
theorem f_Law_law_788 : fetch 213 788 = some (.aload_n 1) := by decide +kernel
theorem e_Law_law_788 (a0 a2 a3 : AV) (σ : aM) (l1 : Option (Nat × Int)) (r : List AV)  : ev 213 788 [a0, aQ l1, a2, a3] (r) σ = ev 213 789 [a0, aQ l1, a2, a3] (aQ l1 :: r) σ := ev_go f_Law_law_788 rfl
theorem f_Law_law_789 : fetch 213 789 = some (.invokevirtual 74) := by decide +kernel
theorem e_Law_law_789 (a0 a1 a2 a3 : AV) (σ : aM) (s0 : Int) : ev 213 789 [a0, a1, a2, a3] [aR 0 s0] σ = evK 213 792 [a0, a1, a2, a3] [] (ev 91 0 [aR 0 s0] [] σ) := ev_call f_Law_law_789 rfl rfl
theorem f_Law_law_792 : fetch 213 792 = some (.aload_n 2) := by decide +kernel
theorem e_Law_law_792 (a0 a1 a3 : AV) (σ : aM) (l2 : Option (Nat × Int)) (r : List AV)  : ev 213 792 [a0, a1, aQ l2, a3] (r) σ = ev 213 793 [a0, a1, aQ l2, a3] (aQ l2 :: r) σ := ev_go f_Law_law_792 rfl
theorem f_Law_law_793 : fetch 213 793 = some (.invokevirtual 78) := by decide +kernel
theorem e_Law_law_793 (a0 a1 a2 a3 : AV) (σ : aM) (s0 : Int) (s1 : Int) : ev 213 793 [a0, a1, a2, a3] [aR 25 s1, aI s0] σ = evK 213 796 [a0, a1, a2, a3] [aI s0] (ev 177 0 [aR 25 s1] [] σ) := ev_call f_Law_law_793 rfl rfl
theorem f_Law_law_796 : fetch 213 796 = some (.if_icmp .eq 528) := by decide +kernel
theorem e_Law_law_796 (a0 a1 a2 a3 : AV) (σ : aM) (x z : Int) (r : List AV) : ev 213 796 [a0, a1, a2, a3] (aI z :: aI x :: r) σ = if x = z then ev 213 1324 [a0, a1, a2, a3] r σ else ev 213 799 [a0, a1, a2, a3] r σ := ev_br f_Law_law_796 rfl bc_eq
theorem f_Law_law_799 : fetch 213 799 = some (.iconst 0) := by decide +kernel
theorem e_Law_law_799 (a0 a1 a2 a3 : AV) (σ : aM) (r : List AV)  : ev 213 799 [a0, a1, a2, a3] (r) σ = ev 213 800 [a0, a1, a2, a3] (aI 0 :: r) σ := ev_go f_Law_law_799 rfl
theorem f_Law_law_800 : fetch 213 800 = some (.ireturn) := by decide +kernel
theorem e_Law_law_800 (a0 a1 a2 a3 : AV) (σ : aM) (x : Int) (h : x = 0 ∨ x = 1) : ev 213 800 [a0, a1, a2, a3] [aI x] σ = some ((some (aI x)), σ) := ev_rB f_Law_law_800 rfl h
theorem f_Law_law_801 : fetch 213 801 = some (.aload_n 1) := by decide +kernel
theorem e_Law_law_801 (a0 a2 a3 : AV) (σ : aM) (l1 : Option (Nat × Int)) (r : List AV)  : ev 213 801 [a0, aQ l1, a2, a3] (r) σ = ev 213 802 [a0, aQ l1, a2, a3] (aQ l1 :: r) σ := ev_go f_Law_law_801 rfl
theorem f_Law_law_802 : fetch 213 802 = some (.aload_n 0) := by decide +kernel
theorem e_Law_law_802 (a1 a2 a3 : AV) (σ : aM) (l0 : Option (Nat × Int)) (r : List AV)  : ev 213 802 [aQ l0, a1, a2, a3] (r) σ = ev 213 803 [aQ l0, a1, a2, a3] (aQ l0 :: r) σ := ev_go f_Law_law_802 rfl
theorem f_Law_law_803 : fetch 213 803 = some (.iload_n 3) := by decide +kernel
theorem e_Law_law_803 (a0 a1 a2 : AV) (σ : aM) (l3 : Int) (r : List AV)  : ev 213 803 [a0, a1, a2, aI l3] (r) σ = ev 213 804 [a0, a1, a2, aI l3] (aI l3 :: r) σ := ev_go f_Law_law_803 rfl
theorem f_Law_law_804 : fetch 213 804 = some (.iconst 1) := by decide +kernel
theorem e_Law_law_804 (a0 a1 a2 a3 : AV) (σ : aM) (r : List AV)  : ev 213 804 [a0, a1, a2, a3] (r) σ = ev 213 805 [a0, a1, a2, a3] (aI 1 :: r) σ := ev_go f_Law_law_804 rfl
theorem f_Law_law_805 : fetch 213 805 = some (.iadd) := by decide +kernel
theorem e_Law_law_805 (a0 a1 a2 a3 : AV) (σ : aM) (x z : Int) (r : List AV)  : ev 213 805 [a0, a1, a2, a3] (aI z :: aI x :: r) σ = ev 213 806 [a0, a1, a2, a3] (aI (wr (x + z)) :: r) σ := ev_go f_Law_law_805 rfl
theorem f_Law_law_806 : fetch 213 806 = some (.iaload) := by decide +kernel
theorem e_Law_law_806 (a0 a1 a2 a3 : AV) (σ : aM) (x : Int) (r : List AV) (h : 0 ≤ x ∧ x < gI σ 34 0 (-1)) : ev 213 806 [a0, a1, a2, a3] (aI x :: aR 34 0 :: r) σ = ev 213 807 [a0, a1, a2, a3] (aI (gI σ 34 0 x) :: r) σ := ev_ldS f_Law_law_806 rfl h
theorem f_Law_law_807 : fetch 213 807 = some (.invokevirtual 79) := by decide +kernel
theorem e_Law_law_807 (a0 a1 a2 a3 : AV) (σ : aM) (s0 : Int) (s1 : Int) : ev 213 807 [a0, a1, a2, a3] [aI s1, aR 0 s0] σ = evK 213 810 [a0, a1, a2, a3] [] (ev 92 0 [aR 0 s0, aI s1, aU] [] σ) := ev_call f_Law_law_807 rfl rfl
theorem f_Law_law_810 : fetch 213 810 = some (.aload_n 2) := by decide +kernel
theorem e_Law_law_810 (a0 a1 a3 : AV) (σ : aM) (l2 : Option (Nat × Int)) (r : List AV)  : ev 213 810 [a0, a1, aQ l2, a3] (r) σ = ev 213 811 [a0, a1, aQ l2, a3] (aQ l2 :: r) σ := ev_go f_Law_law_810 rfl
theorem f_Law_law_811 : fetch 213 811 = some (.aload_n 0) := by decide +kernel
theorem e_Law_law_811 (a1 a2 a3 : AV) (σ : aM) (l0 : Option (Nat × Int)) (r : List AV)  : ev 213 811 [aQ l0, a1, a2, a3] (r) σ = ev 213 812 [aQ l0, a1, a2, a3] (aQ l0 :: r) σ := ev_go f_Law_law_811 rfl
theorem f_Law_law_812 : fetch 213 812 = some (.iload_n 3) := by decide +kernel
theorem e_Law_law_812 (a0 a1 a2 : AV) (σ : aM) (l3 : Int) (r : List AV)  : ev 213 812 [a0, a1, a2, aI l3] (r) σ = ev 213 813 [a0, a1, a2, aI l3] (aI l3 :: r) σ := ev_go f_Law_law_812 rfl
theorem f_Law_law_813 : fetch 213 813 = some (.iconst 1) := by decide +kernel
theorem e_Law_law_813 (a0 a1 a2 a3 : AV) (σ : aM) (r : List AV)  : ev 213 813 [a0, a1, a2, a3] (r) σ = ev 213 814 [a0, a1, a2, a3] (aI 1 :: r) σ := ev_go f_Law_law_813 rfl
theorem f_Law_law_814 : fetch 213 814 = some (.iadd) := by decide +kernel
theorem e_Law_law_814 (a0 a1 a2 a3 : AV) (σ : aM) (x z : Int) (r : List AV)  : ev 213 814 [a0, a1, a2, a3] (aI z :: aI x :: r) σ = ev 213 815 [a0, a1, a2, a3] (aI (wr (x + z)) :: r) σ := ev_go f_Law_law_814 rfl
theorem f_Law_law_815 : fetch 213 815 = some (.iaload) := by decide +kernel
theorem e_Law_law_815 (a0 a1 a2 a3 : AV) (σ : aM) (x : Int) (r : List AV) (h : 0 ≤ x ∧ x < gI σ 34 0 (-1)) : ev 213 815 [a0, a1, a2, a3] (aI x :: aR 34 0 :: r) σ = ev 213 816 [a0, a1, a2, a3] (aI (gI σ 34 0 x) :: r) σ := ev_ldS f_Law_law_815 rfl h
theorem f_Law_law_816 : fetch 213 816 = some (.invokevirtual 82) := by decide +kernel
theorem e_Law_law_816 (a0 a1 a2 a3 : AV) (σ : aM) (s0 : Int) (s1 : Int) (s2 : Int) : ev 213 816 [a0, a1, a2, a3] [aI s2, aR 25 s1, aI s0] σ = evK 213 819 [a0, a1, a2, a3] [aI s0] (ev 179 0 [aR 25 s1, aI s2] [] σ) := ev_call f_Law_law_816 rfl rfl
theorem f_Law_law_819 : fetch 213 819 = some (.if_icmp .eq 505) := by decide +kernel
theorem e_Law_law_819 (a0 a1 a2 a3 : AV) (σ : aM) (x z : Int) (r : List AV) : ev 213 819 [a0, a1, a2, a3] (aI z :: aI x :: r) σ = if x = z then ev 213 1324 [a0, a1, a2, a3] r σ else ev 213 822 [a0, a1, a2, a3] r σ := ev_br f_Law_law_819 rfl bc_eq
theorem f_Law_law_822 : fetch 213 822 = some (.iconst 0) := by decide +kernel
theorem e_Law_law_822 (a0 a1 a2 a3 : AV) (σ : aM) (r : List AV)  : ev 213 822 [a0, a1, a2, a3] (r) σ = ev 213 823 [a0, a1, a2, a3] (aI 0 :: r) σ := ev_go f_Law_law_822 rfl
theorem f_Law_law_823 : fetch 213 823 = some (.ireturn) := by decide +kernel
theorem e_Law_law_823 (a0 a1 a2 a3 : AV) (σ : aM) (x : Int) (h : x = 0 ∨ x = 1) : ev 213 823 [a0, a1, a2, a3] [aI x] σ = some ((some (aI x)), σ) := ev_rB f_Law_law_823 rfl h
theorem f_Law_law_824 : fetch 213 824 = some (.aload_n 1) := by decide +kernel
theorem e_Law_law_824 (a0 a2 a3 : AV) (σ : aM) (l1 : Option (Nat × Int)) (r : List AV)  : ev 213 824 [a0, aQ l1, a2, a3] (r) σ = ev 213 825 [a0, aQ l1, a2, a3] (aQ l1 :: r) σ := ev_go f_Law_law_824 rfl
theorem f_Law_law_825 : fetch 213 825 = some (.aload_n 0) := by decide +kernel
theorem e_Law_law_825 (a1 a2 a3 : AV) (σ : aM) (l0 : Option (Nat × Int)) (r : List AV)  : ev 213 825 [aQ l0, a1, a2, a3] (r) σ = ev 213 826 [aQ l0, a1, a2, a3] (aQ l0 :: r) σ := ev_go f_Law_law_825 rfl
theorem f_Law_law_826 : fetch 213 826 = some (.iload_n 3) := by decide +kernel
theorem e_Law_law_826 (a0 a1 a2 : AV) (σ : aM) (l3 : Int) (r : List AV)  : ev 213 826 [a0, a1, a2, aI l3] (r) σ = ev 213 827 [a0, a1, a2, aI l3] (aI l3 :: r) σ := ev_go f_Law_law_826 rfl
theorem f_Law_law_827 : fetch 213 827 = some (.iconst 1) := by decide +kernel
theorem e_Law_law_827 (a0 a1 a2 a3 : AV) (σ : aM) (r : List AV)  : ev 213 827 [a0, a1, a2, a3] (r) σ = ev 213 828 [a0, a1, a2, a3] (aI 1 :: r) σ := ev_go f_Law_law_827 rfl
theorem f_Law_law_828 : fetch 213 828 = some (.iadd) := by decide +kernel
theorem e_Law_law_828 (a0 a1 a2 a3 : AV) (σ : aM) (x z : Int) (r : List AV)  : ev 213 828 [a0, a1, a2, a3] (aI z :: aI x :: r) σ = ev 213 829 [a0, a1, a2, a3] (aI (wr (x + z)) :: r) σ := ev_go f_Law_law_828 rfl
theorem f_Law_law_829 : fetch 213 829 = some (.iaload) := by decide +kernel
theorem e_Law_law_829 (a0 a1 a2 a3 : AV) (σ : aM) (x : Int) (r : List AV) (h : 0 ≤ x ∧ x < gI σ 34 0 (-1)) : ev 213 829 [a0, a1, a2, a3] (aI x :: aR 34 0 :: r) σ = ev 213 830 [a0, a1, a2, a3] (aI (gI σ 34 0 x) :: r) σ := ev_ldS f_Law_law_829 rfl h
theorem f_Law_law_830 : fetch 213 830 = some (.aload_n 0) := by decide +kernel
theorem e_Law_law_830 (a1 a2 a3 : AV) (σ : aM) (l0 : Option (Nat × Int)) (r : List AV)  : ev 213 830 [aQ l0, a1, a2, a3] (r) σ = ev 213 831 [aQ l0, a1, a2, a3] (aQ l0 :: r) σ := ev_go f_Law_law_830 rfl
theorem f_Law_law_831 : fetch 213 831 = some (.iload_n 3) := by decide +kernel
theorem e_Law_law_831 (a0 a1 a2 : AV) (σ : aM) (l3 : Int) (r : List AV)  : ev 213 831 [a0, a1, a2, aI l3] (r) σ = ev 213 832 [a0, a1, a2, aI l3] (aI l3 :: r) σ := ev_go f_Law_law_831 rfl
theorem f_Law_law_832 : fetch 213 832 = some (.iconst 2) := by decide +kernel
theorem e_Law_law_832 (a0 a1 a2 a3 : AV) (σ : aM) (r : List AV)  : ev 213 832 [a0, a1, a2, a3] (r) σ = ev 213 833 [a0, a1, a2, a3] (aI 2 :: r) σ := ev_go f_Law_law_832 rfl
theorem f_Law_law_833 : fetch 213 833 = some (.iadd) := by decide +kernel
theorem e_Law_law_833 (a0 a1 a2 a3 : AV) (σ : aM) (x z : Int) (r : List AV)  : ev 213 833 [a0, a1, a2, a3] (aI z :: aI x :: r) σ = ev 213 834 [a0, a1, a2, a3] (aI (wr (x + z)) :: r) σ := ev_go f_Law_law_833 rfl
theorem f_Law_law_834 : fetch 213 834 = some (.iaload) := by decide +kernel
theorem e_Law_law_834 (a0 a1 a2 a3 : AV) (σ : aM) (x : Int) (r : List AV) (h : 0 ≤ x ∧ x < gI σ 34 0 (-1)) : ev 213 834 [a0, a1, a2, a3] (aI x :: aR 34 0 :: r) σ = ev 213 835 [a0, a1, a2, a3] (aI (gI σ 34 0 x) :: r) σ := ev_ldS f_Law_law_834 rfl h
theorem f_Law_law_835 : fetch 213 835 = some (.aload_n 0) := by decide +kernel
theorem e_Law_law_835 (a1 a2 a3 : AV) (σ : aM) (l0 : Option (Nat × Int)) (r : List AV)  : ev 213 835 [aQ l0, a1, a2, a3] (r) σ = ev 213 836 [aQ l0, a1, a2, a3] (aQ l0 :: r) σ := ev_go f_Law_law_835 rfl
theorem f_Law_law_836 : fetch 213 836 = some (.iload_n 3) := by decide +kernel
theorem e_Law_law_836 (a0 a1 a2 : AV) (σ : aM) (l3 : Int) (r : List AV)  : ev 213 836 [a0, a1, a2, aI l3] (r) σ = ev 213 837 [a0, a1, a2, aI l3] (aI l3 :: r) σ := ev_go f_Law_law_836 rfl
theorem f_Law_law_837 : fetch 213 837 = some (.iconst 3) := by decide +kernel
theorem e_Law_law_837 (a0 a1 a2 a3 : AV) (σ : aM) (r : List AV)  : ev 213 837 [a0, a1, a2, a3] (r) σ = ev 213 838 [a0, a1, a2, a3] (aI 3 :: r) σ := ev_go f_Law_law_837 rfl
theorem f_Law_law_838 : fetch 213 838 = some (.iadd) := by decide +kernel
theorem e_Law_law_838 (a0 a1 a2 a3 : AV) (σ : aM) (x z : Int) (r : List AV)  : ev 213 838 [a0, a1, a2, a3] (aI z :: aI x :: r) σ = ev 213 839 [a0, a1, a2, a3] (aI (wr (x + z)) :: r) σ := ev_go f_Law_law_838 rfl
theorem f_Law_law_839 : fetch 213 839 = some (.iaload) := by decide +kernel
theorem e_Law_law_839 (a0 a1 a2 a3 : AV) (σ : aM) (x : Int) (r : List AV) (h : 0 ≤ x ∧ x < gI σ 34 0 (-1)) : ev 213 839 [a0, a1, a2, a3] (aI x :: aR 34 0 :: r) σ = ev 213 840 [a0, a1, a2, a3] (aI (gI σ 34 0 x) :: r) σ := ev_ldS f_Law_law_839 rfl h
theorem f_Law_law_840 : fetch 213 840 = some (.invokevirtual 83) := by decide +kernel
theorem e_Law_law_840 (a0 a1 a2 a3 : AV) (σ : aM) (s0 : Int) (s1 : Int) (s2 : Int) (s3 : Int) : ev 213 840 [a0, a1, a2, a3] [aI s3, aI s2, aI s1, aR 0 s0] σ = evK 213 843 [a0, a1, a2, a3] [] (ev 93 0 [aR 0 s0, aI s1, aI s2, aI s3, aU, aU] [] σ) := ev_call f_Law_law_840 rfl rfl
theorem f_Law_law_843 : fetch 213 843 = some (.aload_n 2) := by decide +kernel
theorem e_Law_law_843 (a0 a1 a3 : AV) (σ : aM) (l2 : Option (Nat × Int)) (r : List AV)  : ev 213 843 [a0, a1, aQ l2, a3] (r) σ = ev 213 844 [a0, a1, aQ l2, a3] (aQ l2 :: r) σ := ev_go f_Law_law_843 rfl
theorem f_Law_law_844 : fetch 213 844 = some (.aload_n 0) := by decide +kernel
theorem e_Law_law_844 (a1 a2 a3 : AV) (σ : aM) (l0 : Option (Nat × Int)) (r : List AV)  : ev 213 844 [aQ l0, a1, a2, a3] (r) σ = ev 213 845 [aQ l0, a1, a2, a3] (aQ l0 :: r) σ := ev_go f_Law_law_844 rfl
theorem f_Law_law_845 : fetch 213 845 = some (.iload_n 3) := by decide +kernel
theorem e_Law_law_845 (a0 a1 a2 : AV) (σ : aM) (l3 : Int) (r : List AV)  : ev 213 845 [a0, a1, a2, aI l3] (r) σ = ev 213 846 [a0, a1, a2, aI l3] (aI l3 :: r) σ := ev_go f_Law_law_845 rfl
theorem f_Law_law_846 : fetch 213 846 = some (.iconst 1) := by decide +kernel
theorem e_Law_law_846 (a0 a1 a2 a3 : AV) (σ : aM) (r : List AV)  : ev 213 846 [a0, a1, a2, a3] (r) σ = ev 213 847 [a0, a1, a2, a3] (aI 1 :: r) σ := ev_go f_Law_law_846 rfl
theorem f_Law_law_847 : fetch 213 847 = some (.iadd) := by decide +kernel
theorem e_Law_law_847 (a0 a1 a2 a3 : AV) (σ : aM) (x z : Int) (r : List AV)  : ev 213 847 [a0, a1, a2, a3] (aI z :: aI x :: r) σ = ev 213 848 [a0, a1, a2, a3] (aI (wr (x + z)) :: r) σ := ev_go f_Law_law_847 rfl
theorem f_Law_law_848 : fetch 213 848 = some (.iaload) := by decide +kernel
theorem e_Law_law_848 (a0 a1 a2 a3 : AV) (σ : aM) (x : Int) (r : List AV) (h : 0 ≤ x ∧ x < gI σ 34 0 (-1)) : ev 213 848 [a0, a1, a2, a3] (aI x :: aR 34 0 :: r) σ = ev 213 849 [a0, a1, a2, a3] (aI (gI σ 34 0 x) :: r) σ := ev_ldS f_Law_law_848 rfl h
theorem f_Law_law_849 : fetch 213 849 = some (.aload_n 0) := by decide +kernel
theorem e_Law_law_849 (a1 a2 a3 : AV) (σ : aM) (l0 : Option (Nat × Int)) (r : List AV)  : ev 213 849 [aQ l0, a1, a2, a3] (r) σ = ev 213 850 [aQ l0, a1, a2, a3] (aQ l0 :: r) σ := ev_go f_Law_law_849 rfl
theorem f_Law_law_850 : fetch 213 850 = some (.iload_n 3) := by decide +kernel
theorem e_Law_law_850 (a0 a1 a2 : AV) (σ : aM) (l3 : Int) (r : List AV)  : ev 213 850 [a0, a1, a2, aI l3] (r) σ = ev 213 851 [a0, a1, a2, aI l3] (aI l3 :: r) σ := ev_go f_Law_law_850 rfl
theorem f_Law_law_851 : fetch 213 851 = some (.iconst 2) := by decide +kernel
theorem e_Law_law_851 (a0 a1 a2 a3 : AV) (σ : aM) (r : List AV)  : ev 213 851 [a0, a1, a2, a3] (r) σ = ev 213 852 [a0, a1, a2, a3] (aI 2 :: r) σ := ev_go f_Law_law_851 rfl
theorem f_Law_law_852 : fetch 213 852 = some (.iadd) := by decide +kernel
theorem e_Law_law_852 (a0 a1 a2 a3 : AV) (σ : aM) (x z : Int) (r : List AV)  : ev 213 852 [a0, a1, a2, a3] (aI z :: aI x :: r) σ = ev 213 853 [a0, a1, a2, a3] (aI (wr (x + z)) :: r) σ := ev_go f_Law_law_852 rfl
theorem f_Law_law_853 : fetch 213 853 = some (.iaload) := by decide +kernel
theorem e_Law_law_853 (a0 a1 a2 a3 : AV) (σ : aM) (x : Int) (r : List AV) (h : 0 ≤ x ∧ x < gI σ 34 0 (-1)) : ev 213 853 [a0, a1, a2, a3] (aI x :: aR 34 0 :: r) σ = ev 213 854 [a0, a1, a2, a3] (aI (gI σ 34 0 x) :: r) σ := ev_ldS f_Law_law_853 rfl h
theorem f_Law_law_854 : fetch 213 854 = some (.aload_n 0) := by decide +kernel
theorem e_Law_law_854 (a1 a2 a3 : AV) (σ : aM) (l0 : Option (Nat × Int)) (r : List AV)  : ev 213 854 [aQ l0, a1, a2, a3] (r) σ = ev 213 855 [aQ l0, a1, a2, a3] (aQ l0 :: r) σ := ev_go f_Law_law_854 rfl
theorem f_Law_law_855 : fetch 213 855 = some (.iload_n 3) := by decide +kernel
theorem e_Law_law_855 (a0 a1 a2 : AV) (σ : aM) (l3 : Int) (r : List AV)  : ev 213 855 [a0, a1, a2, aI l3] (r) σ = ev 213 856 [a0, a1, a2, aI l3] (aI l3 :: r) σ := ev_go f_Law_law_855 rfl
theorem f_Law_law_856 : fetch 213 856 = some (.iconst 3) := by decide +kernel
theorem e_Law_law_856 (a0 a1 a2 a3 : AV) (σ : aM) (r : List AV)  : ev 213 856 [a0, a1, a2, a3] (r) σ = ev 213 857 [a0, a1, a2, a3] (aI 3 :: r) σ := ev_go f_Law_law_856 rfl
theorem f_Law_law_857 : fetch 213 857 = some (.iadd) := by decide +kernel
theorem e_Law_law_857 (a0 a1 a2 a3 : AV) (σ : aM) (x z : Int) (r : List AV)  : ev 213 857 [a0, a1, a2, a3] (aI z :: aI x :: r) σ = ev 213 858 [a0, a1, a2, a3] (aI (wr (x + z)) :: r) σ := ev_go f_Law_law_857 rfl
theorem f_Law_law_858 : fetch 213 858 = some (.iaload) := by decide +kernel
theorem e_Law_law_858 (a0 a1 a2 a3 : AV) (σ : aM) (x : Int) (r : List AV) (h : 0 ≤ x ∧ x < gI σ 34 0 (-1)) : ev 213 858 [a0, a1, a2, a3] (aI x :: aR 34 0 :: r) σ = ev 213 859 [a0, a1, a2, a3] (aI (gI σ 34 0 x) :: r) σ := ev_ldS f_Law_law_858 rfl h
theorem f_Law_law_859 : fetch 213 859 = some (.invokevirtual 86) := by decide +kernel
theorem e_Law_law_859 (a0 a1 a2 a3 : AV) (σ : aM) (s0 : Int) (s1 : Int) (s2 : Int) (s3 : Int) (s4 : Int) : ev 213 859 [a0, a1, a2, a3] [aI s4, aI s3, aI s2, aR 25 s1, aI s0] σ = evK 213 862 [a0, a1, a2, a3] [aI s0] (ev 180 0 [aR 25 s1, aI s2, aI s3, aI s4, aU, aU] [] σ) := ev_call f_Law_law_859 rfl rfl
theorem f_Law_law_862 : fetch 213 862 = some (.if_icmp .eq 462) := by decide +kernel
theorem e_Law_law_862 (a0 a1 a2 a3 : AV) (σ : aM) (x z : Int) (r : List AV) : ev 213 862 [a0, a1, a2, a3] (aI z :: aI x :: r) σ = if x = z then ev 213 1324 [a0, a1, a2, a3] r σ else ev 213 865 [a0, a1, a2, a3] r σ := ev_br f_Law_law_862 rfl bc_eq
theorem f_Law_law_865 : fetch 213 865 = some (.iconst 0) := by decide +kernel
theorem e_Law_law_865 (a0 a1 a2 a3 : AV) (σ : aM) (r : List AV)  : ev 213 865 [a0, a1, a2, a3] (r) σ = ev 213 866 [a0, a1, a2, a3] (aI 0 :: r) σ := ev_go f_Law_law_865 rfl
theorem f_Law_law_866 : fetch 213 866 = some (.ireturn) := by decide +kernel
theorem e_Law_law_866 (a0 a1 a2 a3 : AV) (σ : aM) (x : Int) (h : x = 0 ∨ x = 1) : ev 213 866 [a0, a1, a2, a3] [aI x] σ = some ((some (aI x)), σ) := ev_rB f_Law_law_866 rfl h
theorem f_Law_law_867 : fetch 213 867 = some (.aload_n 1) := by decide +kernel
theorem e_Law_law_867 (a0 a2 a3 : AV) (σ : aM) (l1 : Option (Nat × Int)) (r : List AV)  : ev 213 867 [a0, aQ l1, a2, a3] (r) σ = ev 213 868 [a0, aQ l1, a2, a3] (aQ l1 :: r) σ := ev_go f_Law_law_867 rfl
theorem f_Law_law_868 : fetch 213 868 = some (.aload_n 0) := by decide +kernel
theorem e_Law_law_868 (a1 a2 a3 : AV) (σ : aM) (l0 : Option (Nat × Int)) (r : List AV)  : ev 213 868 [aQ l0, a1, a2, a3] (r) σ = ev 213 869 [aQ l0, a1, a2, a3] (aQ l0 :: r) σ := ev_go f_Law_law_868 rfl
theorem f_Law_law_869 : fetch 213 869 = some (.iload_n 3) := by decide +kernel
theorem e_Law_law_869 (a0 a1 a2 : AV) (σ : aM) (l3 : Int) (r : List AV)  : ev 213 869 [a0, a1, a2, aI l3] (r) σ = ev 213 870 [a0, a1, a2, aI l3] (aI l3 :: r) σ := ev_go f_Law_law_869 rfl
theorem f_Law_law_870 : fetch 213 870 = some (.iconst 1) := by decide +kernel
theorem e_Law_law_870 (a0 a1 a2 a3 : AV) (σ : aM) (r : List AV)  : ev 213 870 [a0, a1, a2, a3] (r) σ = ev 213 871 [a0, a1, a2, a3] (aI 1 :: r) σ := ev_go f_Law_law_870 rfl
theorem f_Law_law_871 : fetch 213 871 = some (.iadd) := by decide +kernel
theorem e_Law_law_871 (a0 a1 a2 a3 : AV) (σ : aM) (x z : Int) (r : List AV)  : ev 213 871 [a0, a1, a2, a3] (aI z :: aI x :: r) σ = ev 213 872 [a0, a1, a2, a3] (aI (wr (x + z)) :: r) σ := ev_go f_Law_law_871 rfl
theorem f_Law_law_872 : fetch 213 872 = some (.iaload) := by decide +kernel
theorem e_Law_law_872 (a0 a1 a2 a3 : AV) (σ : aM) (x : Int) (r : List AV) (h : 0 ≤ x ∧ x < gI σ 34 0 (-1)) : ev 213 872 [a0, a1, a2, a3] (aI x :: aR 34 0 :: r) σ = ev 213 873 [a0, a1, a2, a3] (aI (gI σ 34 0 x) :: r) σ := ev_ldS f_Law_law_872 rfl h
theorem f_Law_law_873 : fetch 213 873 = some (.invokevirtual 87) := by decide +kernel
theorem e_Law_law_873 (a0 a1 a2 a3 : AV) (σ : aM) (s0 : Int) (s1 : Int) : ev 213 873 [a0, a1, a2, a3] [aI s1, aR 0 s0] σ = evK 213 876 [a0, a1, a2, a3] [] (ev 94 0 [aR 0 s0, aI s1, aU] [] σ) := ev_call f_Law_law_873 rfl rfl
theorem f_Law_law_876 : fetch 213 876 = some (.aload_n 2) := by decide +kernel
theorem e_Law_law_876 (a0 a1 a3 : AV) (σ : aM) (l2 : Option (Nat × Int)) (r : List AV)  : ev 213 876 [a0, a1, aQ l2, a3] (r) σ = ev 213 877 [a0, a1, aQ l2, a3] (aQ l2 :: r) σ := ev_go f_Law_law_876 rfl
theorem f_Law_law_877 : fetch 213 877 = some (.aload_n 0) := by decide +kernel
theorem e_Law_law_877 (a1 a2 a3 : AV) (σ : aM) (l0 : Option (Nat × Int)) (r : List AV)  : ev 213 877 [aQ l0, a1, a2, a3] (r) σ = ev 213 878 [aQ l0, a1, a2, a3] (aQ l0 :: r) σ := ev_go f_Law_law_877 rfl
theorem f_Law_law_878 : fetch 213 878 = some (.iload_n 3) := by decide +kernel
theorem e_Law_law_878 (a0 a1 a2 : AV) (σ : aM) (l3 : Int) (r : List AV)  : ev 213 878 [a0, a1, a2, aI l3] (r) σ = ev 213 879 [a0, a1, a2, aI l3] (aI l3 :: r) σ := ev_go f_Law_law_878 rfl
theorem f_Law_law_879 : fetch 213 879 = some (.iconst 1) := by decide +kernel
theorem e_Law_law_879 (a0 a1 a2 a3 : AV) (σ : aM) (r : List AV)  : ev 213 879 [a0, a1, a2, a3] (r) σ = ev 213 880 [a0, a1, a2, a3] (aI 1 :: r) σ := ev_go f_Law_law_879 rfl
theorem f_Law_law_880 : fetch 213 880 = some (.iadd) := by decide +kernel
theorem e_Law_law_880 (a0 a1 a2 a3 : AV) (σ : aM) (x z : Int) (r : List AV)  : ev 213 880 [a0, a1, a2, a3] (aI z :: aI x :: r) σ = ev 213 881 [a0, a1, a2, a3] (aI (wr (x + z)) :: r) σ := ev_go f_Law_law_880 rfl
theorem f_Law_law_881 : fetch 213 881 = some (.iaload) := by decide +kernel
theorem e_Law_law_881 (a0 a1 a2 a3 : AV) (σ : aM) (x : Int) (r : List AV) (h : 0 ≤ x ∧ x < gI σ 34 0 (-1)) : ev 213 881 [a0, a1, a2, a3] (aI x :: aR 34 0 :: r) σ = ev 213 882 [a0, a1, a2, a3] (aI (gI σ 34 0 x) :: r) σ := ev_ldS f_Law_law_881 rfl h
theorem f_Law_law_882 : fetch 213 882 = some (.invokevirtual 90) := by decide +kernel
theorem e_Law_law_882 (a0 a1 a2 a3 : AV) (σ : aM) (s0 : Int) (s1 : Int) (s2 : Int) : ev 213 882 [a0, a1, a2, a3] [aI s2, aR 25 s1, aI s0] σ = evK 213 885 [a0, a1, a2, a3] [aI s0] (ev 181 0 [aR 25 s1, aI s2, aU] [] σ) := ev_call f_Law_law_882 rfl rfl
theorem f_Law_law_885 : fetch 213 885 = some (.if_icmp .eq 439) := by decide +kernel
theorem e_Law_law_885 (a0 a1 a2 a3 : AV) (σ : aM) (x z : Int) (r : List AV) : ev 213 885 [a0, a1, a2, a3] (aI z :: aI x :: r) σ = if x = z then ev 213 1324 [a0, a1, a2, a3] r σ else ev 213 888 [a0, a1, a2, a3] r σ := ev_br f_Law_law_885 rfl bc_eq
theorem f_Law_law_888 : fetch 213 888 = some (.iconst 0) := by decide +kernel
theorem e_Law_law_888 (a0 a1 a2 a3 : AV) (σ : aM) (r : List AV)  : ev 213 888 [a0, a1, a2, a3] (r) σ = ev 213 889 [a0, a1, a2, a3] (aI 0 :: r) σ := ev_go f_Law_law_888 rfl
theorem f_Law_law_889 : fetch 213 889 = some (.ireturn) := by decide +kernel
theorem e_Law_law_889 (a0 a1 a2 a3 : AV) (σ : aM) (x : Int) (h : x = 0 ∨ x = 1) : ev 213 889 [a0, a1, a2, a3] [aI x] σ = some ((some (aI x)), σ) := ev_rB f_Law_law_889 rfl h
theorem f_Law_law_890 : fetch 213 890 = some (.aload_n 1) := by decide +kernel
theorem e_Law_law_890 (a0 a2 a3 : AV) (σ : aM) (l1 : Option (Nat × Int)) (r : List AV)  : ev 213 890 [a0, aQ l1, a2, a3] (r) σ = ev 213 891 [a0, aQ l1, a2, a3] (aQ l1 :: r) σ := ev_go f_Law_law_890 rfl
theorem f_Law_law_891 : fetch 213 891 = some (.invokevirtual 91) := by decide +kernel
theorem e_Law_law_891 (a0 a1 a2 a3 : AV) (σ : aM) (s0 : Int) : ev 213 891 [a0, a1, a2, a3] [aR 0 s0] σ = evK 213 894 [a0, a1, a2, a3] [] (ev 95 0 [aR 0 s0] [] σ) := ev_call f_Law_law_891 rfl rfl
theorem f_Law_law_894 : fetch 213 894 = some (.aload_n 2) := by decide +kernel
theorem e_Law_law_894 (a0 a1 a3 : AV) (σ : aM) (l2 : Option (Nat × Int)) (r : List AV)  : ev 213 894 [a0, a1, aQ l2, a3] (r) σ = ev 213 895 [a0, a1, aQ l2, a3] (aQ l2 :: r) σ := ev_go f_Law_law_894 rfl
theorem f_Law_law_895 : fetch 213 895 = some (.invokevirtual 94) := by decide +kernel
theorem e_Law_law_895 (a0 a1 a2 a3 : AV) (σ : aM) (s0 : Int) (s1 : Int) : ev 213 895 [a0, a1, a2, a3] [aR 25 s1, aI s0] σ = evK 213 898 [a0, a1, a2, a3] [aI s0] (ev 187 0 [aR 25 s1, aU, aU] [] σ) := ev_call f_Law_law_895 rfl rfl
theorem f_Law_law_898 : fetch 213 898 = some (.if_icmp .eq 426) := by decide +kernel
theorem e_Law_law_898 (a0 a1 a2 a3 : AV) (σ : aM) (x z : Int) (r : List AV) : ev 213 898 [a0, a1, a2, a3] (aI z :: aI x :: r) σ = if x = z then ev 213 1324 [a0, a1, a2, a3] r σ else ev 213 901 [a0, a1, a2, a3] r σ := ev_br f_Law_law_898 rfl bc_eq
theorem f_Law_law_901 : fetch 213 901 = some (.iconst 0) := by decide +kernel
theorem e_Law_law_901 (a0 a1 a2 a3 : AV) (σ : aM) (r : List AV)  : ev 213 901 [a0, a1, a2, a3] (r) σ = ev 213 902 [a0, a1, a2, a3] (aI 0 :: r) σ := ev_go f_Law_law_901 rfl
theorem f_Law_law_902 : fetch 213 902 = some (.ireturn) := by decide +kernel
theorem e_Law_law_902 (a0 a1 a2 a3 : AV) (σ : aM) (x : Int) (h : x = 0 ∨ x = 1) : ev 213 902 [a0, a1, a2, a3] [aI x] σ = some ((some (aI x)), σ) := ev_rB f_Law_law_902 rfl h
theorem f_Law_law_903 : fetch 213 903 = some (.aload_n 1) := by decide +kernel
theorem e_Law_law_903 (a0 a2 a3 : AV) (σ : aM) (l1 : Option (Nat × Int)) (r : List AV)  : ev 213 903 [a0, aQ l1, a2, a3] (r) σ = ev 213 904 [a0, aQ l1, a2, a3] (aQ l1 :: r) σ := ev_go f_Law_law_903 rfl
theorem f_Law_law_904 : fetch 213 904 = some (.invokevirtual 95) := by decide +kernel
theorem e_Law_law_904 (a0 a1 a2 a3 : AV) (σ : aM) (s0 : Int) : ev 213 904 [a0, a1, a2, a3] [aR 0 s0] σ = evK 213 907 [a0, a1, a2, a3] [] (ev 96 0 [aR 0 s0] [] σ) := ev_call f_Law_law_904 rfl rfl
theorem f_Law_law_907 : fetch 213 907 = some (.aload_n 2) := by decide +kernel
theorem e_Law_law_907 (a0 a1 a3 : AV) (σ : aM) (l2 : Option (Nat × Int)) (r : List AV)  : ev 213 907 [a0, a1, aQ l2, a3] (r) σ = ev 213 908 [a0, a1, aQ l2, a3] (aQ l2 :: r) σ := ev_go f_Law_law_907 rfl
theorem f_Law_law_908 : fetch 213 908 = some (.invokevirtual 98) := by decide +kernel
theorem e_Law_law_908 (a0 a1 a2 a3 : AV) (σ : aM) (s0 : Int) (s1 : Int) : ev 213 908 [a0, a1, a2, a3] [aR 25 s1, aI s0] σ = evK 213 911 [a0, a1, a2, a3] [aI s0] (ev 189 0 [aR 25 s1] [] σ) := ev_call f_Law_law_908 rfl rfl
theorem f_Law_law_911 : fetch 213 911 = some (.if_icmp .eq 413) := by decide +kernel
theorem e_Law_law_911 (a0 a1 a2 a3 : AV) (σ : aM) (x z : Int) (r : List AV) : ev 213 911 [a0, a1, a2, a3] (aI z :: aI x :: r) σ = if x = z then ev 213 1324 [a0, a1, a2, a3] r σ else ev 213 914 [a0, a1, a2, a3] r σ := ev_br f_Law_law_911 rfl bc_eq
theorem f_Law_law_914 : fetch 213 914 = some (.iconst 0) := by decide +kernel
theorem e_Law_law_914 (a0 a1 a2 a3 : AV) (σ : aM) (r : List AV)  : ev 213 914 [a0, a1, a2, a3] (r) σ = ev 213 915 [a0, a1, a2, a3] (aI 0 :: r) σ := ev_go f_Law_law_914 rfl
theorem f_Law_law_915 : fetch 213 915 = some (.ireturn) := by decide +kernel
theorem e_Law_law_915 (a0 a1 a2 a3 : AV) (σ : aM) (x : Int) (h : x = 0 ∨ x = 1) : ev 213 915 [a0, a1, a2, a3] [aI x] σ = some ((some (aI x)), σ) := ev_rB f_Law_law_915 rfl h
theorem f_Law_law_916 : fetch 213 916 = some (.aload_n 1) := by decide +kernel
theorem e_Law_law_916 (a0 a2 a3 : AV) (σ : aM) (l1 : Option (Nat × Int)) (r : List AV)  : ev 213 916 [a0, aQ l1, a2, a3] (r) σ = ev 213 917 [a0, aQ l1, a2, a3] (aQ l1 :: r) σ := ev_go f_Law_law_916 rfl
theorem f_Law_law_917 : fetch 213 917 = some (.aload_n 0) := by decide +kernel
theorem e_Law_law_917 (a1 a2 a3 : AV) (σ : aM) (l0 : Option (Nat × Int)) (r : List AV)  : ev 213 917 [aQ l0, a1, a2, a3] (r) σ = ev 213 918 [aQ l0, a1, a2, a3] (aQ l0 :: r) σ := ev_go f_Law_law_917 rfl
theorem f_Law_law_918 : fetch 213 918 = some (.iload_n 3) := by decide +kernel
theorem e_Law_law_918 (a0 a1 a2 : AV) (σ : aM) (l3 : Int) (r : List AV)  : ev 213 918 [a0, a1, a2, aI l3] (r) σ = ev 213 919 [a0, a1, a2, aI l3] (aI l3 :: r) σ := ev_go f_Law_law_918 rfl
theorem f_Law_law_919 : fetch 213 919 = some (.iconst 1) := by decide +kernel
theorem e_Law_law_919 (a0 a1 a2 a3 : AV) (σ : aM) (r : List AV)  : ev 213 919 [a0, a1, a2, a3] (r) σ = ev 213 920 [a0, a1, a2, a3] (aI 1 :: r) σ := ev_go f_Law_law_919 rfl
theorem f_Law_law_920 : fetch 213 920 = some (.iadd) := by decide +kernel
theorem e_Law_law_920 (a0 a1 a2 a3 : AV) (σ : aM) (x z : Int) (r : List AV)  : ev 213 920 [a0, a1, a2, a3] (aI z :: aI x :: r) σ = ev 213 921 [a0, a1, a2, a3] (aI (wr (x + z)) :: r) σ := ev_go f_Law_law_920 rfl
theorem f_Law_law_921 : fetch 213 921 = some (.iaload) := by decide +kernel
theorem e_Law_law_921 (a0 a1 a2 a3 : AV) (σ : aM) (x : Int) (r : List AV) (h : 0 ≤ x ∧ x < gI σ 34 0 (-1)) : ev 213 921 [a0, a1, a2, a3] (aI x :: aR 34 0 :: r) σ = ev 213 922 [a0, a1, a2, a3] (aI (gI σ 34 0 x) :: r) σ := ev_ldS f_Law_law_921 rfl h
theorem f_Law_law_922 : fetch 213 922 = some (.invokevirtual 99) := by decide +kernel
theorem e_Law_law_922 (a0 a1 a2 a3 : AV) (σ : aM) (s0 : Int) (s1 : Int) : ev 213 922 [a0, a1, a2, a3] [aI s1, aR 0 s0] σ = evK 213 925 [a0, a1, a2, a3] [] (ev 97 0 [aR 0 s0, aI s1] [] σ) := ev_call f_Law_law_922 rfl rfl
theorem f_Law_law_925 : fetch 213 925 = some (.aload_n 2) := by decide +kernel
theorem e_Law_law_925 (a0 a1 a3 : AV) (σ : aM) (l2 : Option (Nat × Int)) (r : List AV)  : ev 213 925 [a0, a1, aQ l2, a3] (r) σ = ev 213 926 [a0, a1, aQ l2, a3] (aQ l2 :: r) σ := ev_go f_Law_law_925 rfl
theorem f_Law_law_926 : fetch 213 926 = some (.aload_n 0) := by decide +kernel
theorem e_Law_law_926 (a1 a2 a3 : AV) (σ : aM) (l0 : Option (Nat × Int)) (r : List AV)  : ev 213 926 [aQ l0, a1, a2, a3] (r) σ = ev 213 927 [aQ l0, a1, a2, a3] (aQ l0 :: r) σ := ev_go f_Law_law_926 rfl
theorem f_Law_law_927 : fetch 213 927 = some (.iload_n 3) := by decide +kernel
theorem e_Law_law_927 (a0 a1 a2 : AV) (σ : aM) (l3 : Int) (r : List AV)  : ev 213 927 [a0, a1, a2, aI l3] (r) σ = ev 213 928 [a0, a1, a2, aI l3] (aI l3 :: r) σ := ev_go f_Law_law_927 rfl
theorem f_Law_law_928 : fetch 213 928 = some (.iconst 1) := by decide +kernel
theorem e_Law_law_928 (a0 a1 a2 a3 : AV) (σ : aM) (r : List AV)  : ev 213 928 [a0, a1, a2, a3] (r) σ = ev 213 929 [a0, a1, a2, a3] (aI 1 :: r) σ := ev_go f_Law_law_928 rfl
theorem f_Law_law_929 : fetch 213 929 = some (.iadd) := by decide +kernel
theorem e_Law_law_929 (a0 a1 a2 a3 : AV) (σ : aM) (x z : Int) (r : List AV)  : ev 213 929 [a0, a1, a2, a3] (aI z :: aI x :: r) σ = ev 213 930 [a0, a1, a2, a3] (aI (wr (x + z)) :: r) σ := ev_go f_Law_law_929 rfl
theorem f_Law_law_930 : fetch 213 930 = some (.iaload) := by decide +kernel
theorem e_Law_law_930 (a0 a1 a2 a3 : AV) (σ : aM) (x : Int) (r : List AV) (h : 0 ≤ x ∧ x < gI σ 34 0 (-1)) : ev 213 930 [a0, a1, a2, a3] (aI x :: aR 34 0 :: r) σ = ev 213 931 [a0, a1, a2, a3] (aI (gI σ 34 0 x) :: r) σ := ev_ldS f_Law_law_930 rfl h
theorem f_Law_law_931 : fetch 213 931 = some (.invokevirtual 102) := by decide +kernel
theorem e_Law_law_931 (a0 a1 a2 a3 : AV) (σ : aM) (s0 : Int) (s1 : Int) (s2 : Int) : ev 213 931 [a0, a1, a2, a3] [aI s2, aR 25 s1, aI s0] σ = evK 213 934 [a0, a1, a2, a3] [aI s0] (ev 190 0 [aR 25 s1, aI s2, aU] [] σ) := ev_call f_Law_law_931 rfl rfl
theorem f_Law_law_934 : fetch 213 934 = some (.if_icmp .eq 390) := by decide +kernel
theorem e_Law_law_934 (a0 a1 a2 a3 : AV) (σ : aM) (x z : Int) (r : List AV) : ev 213 934 [a0, a1, a2, a3] (aI z :: aI x :: r) σ = if x = z then ev 213 1324 [a0, a1, a2, a3] r σ else ev 213 937 [a0, a1, a2, a3] r σ := ev_br f_Law_law_934 rfl bc_eq
theorem f_Law_law_937 : fetch 213 937 = some (.iconst 0) := by decide +kernel
theorem e_Law_law_937 (a0 a1 a2 a3 : AV) (σ : aM) (r : List AV)  : ev 213 937 [a0, a1, a2, a3] (r) σ = ev 213 938 [a0, a1, a2, a3] (aI 0 :: r) σ := ev_go f_Law_law_937 rfl
theorem f_Law_law_938 : fetch 213 938 = some (.ireturn) := by decide +kernel
theorem e_Law_law_938 (a0 a1 a2 a3 : AV) (σ : aM) (x : Int) (h : x = 0 ∨ x = 1) : ev 213 938 [a0, a1, a2, a3] [aI x] σ = some ((some (aI x)), σ) := ev_rB f_Law_law_938 rfl h
theorem f_Law_law_939 : fetch 213 939 = some (.aload_n 1) := by decide +kernel
theorem e_Law_law_939 (a0 a2 a3 : AV) (σ : aM) (l1 : Option (Nat × Int)) (r : List AV)  : ev 213 939 [a0, aQ l1, a2, a3] (r) σ = ev 213 940 [a0, aQ l1, a2, a3] (aQ l1 :: r) σ := ev_go f_Law_law_939 rfl
theorem f_Law_law_940 : fetch 213 940 = some (.aload_n 0) := by decide +kernel
theorem e_Law_law_940 (a1 a2 a3 : AV) (σ : aM) (l0 : Option (Nat × Int)) (r : List AV)  : ev 213 940 [aQ l0, a1, a2, a3] (r) σ = ev 213 941 [aQ l0, a1, a2, a3] (aQ l0 :: r) σ := ev_go f_Law_law_940 rfl
theorem f_Law_law_941 : fetch 213 941 = some (.iload_n 3) := by decide +kernel
theorem e_Law_law_941 (a0 a1 a2 : AV) (σ : aM) (l3 : Int) (r : List AV)  : ev 213 941 [a0, a1, a2, aI l3] (r) σ = ev 213 942 [a0, a1, a2, aI l3] (aI l3 :: r) σ := ev_go f_Law_law_941 rfl
theorem f_Law_law_942 : fetch 213 942 = some (.iconst 1) := by decide +kernel
theorem e_Law_law_942 (a0 a1 a2 a3 : AV) (σ : aM) (r : List AV)  : ev 213 942 [a0, a1, a2, a3] (r) σ = ev 213 943 [a0, a1, a2, a3] (aI 1 :: r) σ := ev_go f_Law_law_942 rfl
theorem f_Law_law_943 : fetch 213 943 = some (.iadd) := by decide +kernel
theorem e_Law_law_943 (a0 a1 a2 a3 : AV) (σ : aM) (x z : Int) (r : List AV)  : ev 213 943 [a0, a1, a2, a3] (aI z :: aI x :: r) σ = ev 213 944 [a0, a1, a2, a3] (aI (wr (x + z)) :: r) σ := ev_go f_Law_law_943 rfl
theorem f_Law_law_944 : fetch 213 944 = some (.iaload) := by decide +kernel
theorem e_Law_law_944 (a0 a1 a2 a3 : AV) (σ : aM) (x : Int) (r : List AV) (h : 0 ≤ x ∧ x < gI σ 34 0 (-1)) : ev 213 944 [a0, a1, a2, a3] (aI x :: aR 34 0 :: r) σ = ev 213 945 [a0, a1, a2, a3] (aI (gI σ 34 0 x) :: r) σ := ev_ldS f_Law_law_944 rfl h
theorem f_Law_law_945 : fetch 213 945 = some (.aload_n 0) := by decide +kernel
theorem e_Law_law_945 (a1 a2 a3 : AV) (σ : aM) (l0 : Option (Nat × Int)) (r : List AV)  : ev 213 945 [aQ l0, a1, a2, a3] (r) σ = ev 213 946 [aQ l0, a1, a2, a3] (aQ l0 :: r) σ := ev_go f_Law_law_945 rfl
theorem f_Law_law_946 : fetch 213 946 = some (.iload_n 3) := by decide +kernel
theorem e_Law_law_946 (a0 a1 a2 : AV) (σ : aM) (l3 : Int) (r : List AV)  : ev 213 946 [a0, a1, a2, aI l3] (r) σ = ev 213 947 [a0, a1, a2, aI l3] (aI l3 :: r) σ := ev_go f_Law_law_946 rfl
theorem f_Law_law_947 : fetch 213 947 = some (.iconst 2) := by decide +kernel
theorem e_Law_law_947 (a0 a1 a2 a3 : AV) (σ : aM) (r : List AV)  : ev 213 947 [a0, a1, a2, a3] (r) σ = ev 213 948 [a0, a1, a2, a3] (aI 2 :: r) σ := ev_go f_Law_law_947 rfl
theorem f_Law_law_948 : fetch 213 948 = some (.iadd) := by decide +kernel
theorem e_Law_law_948 (a0 a1 a2 a3 : AV) (σ : aM) (x z : Int) (r : List AV)  : ev 213 948 [a0, a1, a2, a3] (aI z :: aI x :: r) σ = ev 213 949 [a0, a1, a2, a3] (aI (wr (x + z)) :: r) σ := ev_go f_Law_law_948 rfl
theorem f_Law_law_949 : fetch 213 949 = some (.iaload) := by decide +kernel
theorem e_Law_law_949 (a0 a1 a2 a3 : AV) (σ : aM) (x : Int) (r : List AV) (h : 0 ≤ x ∧ x < gI σ 34 0 (-1)) : ev 213 949 [a0, a1, a2, a3] (aI x :: aR 34 0 :: r) σ = ev 213 950 [a0, a1, a2, a3] (aI (gI σ 34 0 x) :: r) σ := ev_ldS f_Law_law_949 rfl h
theorem f_Law_law_950 : fetch 213 950 = some (.invokevirtual 103) := by decide +kernel
theorem e_Law_law_950 (a0 a1 a2 a3 : AV) (σ : aM) (s0 : Int) (s1 : Int) (s2 : Int) : ev 213 950 [a0, a1, a2, a3] [aI s2, aI s1, aR 0 s0] σ = evK 213 953 [a0, a1, a2, a3] [] (ev 98 0 [aR 0 s0, aI s1, aI s2, aU] [] σ) := ev_call f_Law_law_950 rfl rfl
theorem f_Law_law_953 : fetch 213 953 = some (.aload_n 2) := by decide +kernel
theorem e_Law_law_953 (a0 a1 a3 : AV) (σ : aM) (l2 : Option (Nat × Int)) (r : List AV)  : ev 213 953 [a0, a1, aQ l2, a3] (r) σ = ev 213 954 [a0, a1, aQ l2, a3] (aQ l2 :: r) σ := ev_go f_Law_law_953 rfl
theorem f_Law_law_954 : fetch 213 954 = some (.aload_n 0) := by decide +kernel
theorem e_Law_law_954 (a1 a2 a3 : AV) (σ : aM) (l0 : Option (Nat × Int)) (r : List AV)  : ev 213 954 [aQ l0, a1, a2, a3] (r) σ = ev 213 955 [aQ l0, a1, a2, a3] (aQ l0 :: r) σ := ev_go f_Law_law_954 rfl
theorem f_Law_law_955 : fetch 213 955 = some (.iload_n 3) := by decide +kernel
theorem e_Law_law_955 (a0 a1 a2 : AV) (σ : aM) (l3 : Int) (r : List AV)  : ev 213 955 [a0, a1, a2, aI l3] (r) σ = ev 213 956 [a0, a1, a2, aI l3] (aI l3 :: r) σ := ev_go f_Law_law_955 rfl
theorem f_Law_law_956 : fetch 213 956 = some (.iconst 1) := by decide +kernel
theorem e_Law_law_956 (a0 a1 a2 a3 : AV) (σ : aM) (r : List AV)  : ev 213 956 [a0, a1, a2, a3] (r) σ = ev 213 957 [a0, a1, a2, a3] (aI 1 :: r) σ := ev_go f_Law_law_956 rfl
theorem f_Law_law_957 : fetch 213 957 = some (.iadd) := by decide +kernel
theorem e_Law_law_957 (a0 a1 a2 a3 : AV) (σ : aM) (x z : Int) (r : List AV)  : ev 213 957 [a0, a1, a2, a3] (aI z :: aI x :: r) σ = ev 213 958 [a0, a1, a2, a3] (aI (wr (x + z)) :: r) σ := ev_go f_Law_law_957 rfl
theorem f_Law_law_958 : fetch 213 958 = some (.iaload) := by decide +kernel
theorem e_Law_law_958 (a0 a1 a2 a3 : AV) (σ : aM) (x : Int) (r : List AV) (h : 0 ≤ x ∧ x < gI σ 34 0 (-1)) : ev 213 958 [a0, a1, a2, a3] (aI x :: aR 34 0 :: r) σ = ev 213 959 [a0, a1, a2, a3] (aI (gI σ 34 0 x) :: r) σ := ev_ldS f_Law_law_958 rfl h
theorem f_Law_law_959 : fetch 213 959 = some (.aload_n 0) := by decide +kernel
theorem e_Law_law_959 (a1 a2 a3 : AV) (σ : aM) (l0 : Option (Nat × Int)) (r : List AV)  : ev 213 959 [aQ l0, a1, a2, a3] (r) σ = ev 213 960 [aQ l0, a1, a2, a3] (aQ l0 :: r) σ := ev_go f_Law_law_959 rfl
theorem f_Law_law_960 : fetch 213 960 = some (.iload_n 3) := by decide +kernel
theorem e_Law_law_960 (a0 a1 a2 : AV) (σ : aM) (l3 : Int) (r : List AV)  : ev 213 960 [a0, a1, a2, aI l3] (r) σ = ev 213 961 [a0, a1, a2, aI l3] (aI l3 :: r) σ := ev_go f_Law_law_960 rfl
theorem f_Law_law_961 : fetch 213 961 = some (.iconst 2) := by decide +kernel
theorem e_Law_law_961 (a0 a1 a2 a3 : AV) (σ : aM) (r : List AV)  : ev 213 961 [a0, a1, a2, a3] (r) σ = ev 213 962 [a0, a1, a2, a3] (aI 2 :: r) σ := ev_go f_Law_law_961 rfl
theorem f_Law_law_962 : fetch 213 962 = some (.iadd) := by decide +kernel
theorem e_Law_law_962 (a0 a1 a2 a3 : AV) (σ : aM) (x z : Int) (r : List AV)  : ev 213 962 [a0, a1, a2, a3] (aI z :: aI x :: r) σ = ev 213 963 [a0, a1, a2, a3] (aI (wr (x + z)) :: r) σ := ev_go f_Law_law_962 rfl
theorem f_Law_law_963 : fetch 213 963 = some (.iaload) := by decide +kernel
theorem e_Law_law_963 (a0 a1 a2 a3 : AV) (σ : aM) (x : Int) (r : List AV) (h : 0 ≤ x ∧ x < gI σ 34 0 (-1)) : ev 213 963 [a0, a1, a2, a3] (aI x :: aR 34 0 :: r) σ = ev 213 964 [a0, a1, a2, a3] (aI (gI σ 34 0 x) :: r) σ := ev_ldS f_Law_law_963 rfl h
theorem f_Law_law_964 : fetch 213 964 = some (.invokevirtual 106) := by decide +kernel
theorem e_Law_law_964 (a0 a1 a2 a3 : AV) (σ : aM) (s0 : Int) (s1 : Int) (s2 : Int) (s3 : Int) : ev 213 964 [a0, a1, a2, a3] [aI s3, aI s2, aR 25 s1, aI s0] σ = evK 213 967 [a0, a1, a2, a3] [aI s0] (ev 193 0 [aR 25 s1, aI s2, aI s3] [] σ) := ev_call f_Law_law_964 rfl rfl
theorem f_Law_law_967 : fetch 213 967 = some (.if_icmp .eq 357) := by decide +kernel
theorem e_Law_law_967 (a0 a1 a2 a3 : AV) (σ : aM) (x z : Int) (r : List AV) : ev 213 967 [a0, a1, a2, a3] (aI z :: aI x :: r) σ = if x = z then ev 213 1324 [a0, a1, a2, a3] r σ else ev 213 970 [a0, a1, a2, a3] r σ := ev_br f_Law_law_967 rfl bc_eq
theorem f_Law_law_970 : fetch 213 970 = some (.iconst 0) := by decide +kernel
theorem e_Law_law_970 (a0 a1 a2 a3 : AV) (σ : aM) (r : List AV)  : ev 213 970 [a0, a1, a2, a3] (r) σ = ev 213 971 [a0, a1, a2, a3] (aI 0 :: r) σ := ev_go f_Law_law_970 rfl
theorem f_Law_law_971 : fetch 213 971 = some (.ireturn) := by decide +kernel
theorem e_Law_law_971 (a0 a1 a2 a3 : AV) (σ : aM) (x : Int) (h : x = 0 ∨ x = 1) : ev 213 971 [a0, a1, a2, a3] [aI x] σ = some ((some (aI x)), σ) := ev_rB f_Law_law_971 rfl h
theorem f_Law_law_972 : fetch 213 972 = some (.aload_n 1) := by decide +kernel
theorem e_Law_law_972 (a0 a2 a3 : AV) (σ : aM) (l1 : Option (Nat × Int)) (r : List AV)  : ev 213 972 [a0, aQ l1, a2, a3] (r) σ = ev 213 973 [a0, aQ l1, a2, a3] (aQ l1 :: r) σ := ev_go f_Law_law_972 rfl
theorem f_Law_law_973 : fetch 213 973 = some (.aload_n 0) := by decide +kernel
theorem e_Law_law_973 (a1 a2 a3 : AV) (σ : aM) (l0 : Option (Nat × Int)) (r : List AV)  : ev 213 973 [aQ l0, a1, a2, a3] (r) σ = ev 213 974 [aQ l0, a1, a2, a3] (aQ l0 :: r) σ := ev_go f_Law_law_973 rfl
theorem f_Law_law_974 : fetch 213 974 = some (.iload_n 3) := by decide +kernel
theorem e_Law_law_974 (a0 a1 a2 : AV) (σ : aM) (l3 : Int) (r : List AV)  : ev 213 974 [a0, a1, a2, aI l3] (r) σ = ev 213 975 [a0, a1, a2, aI l3] (aI l3 :: r) σ := ev_go f_Law_law_974 rfl
theorem f_Law_law_975 : fetch 213 975 = some (.iconst 1) := by decide +kernel
theorem e_Law_law_975 (a0 a1 a2 a3 : AV) (σ : aM) (r : List AV)  : ev 213 975 [a0, a1, a2, a3] (r) σ = ev 213 976 [a0, a1, a2, a3] (aI 1 :: r) σ := ev_go f_Law_law_975 rfl
theorem f_Law_law_976 : fetch 213 976 = some (.iadd) := by decide +kernel
theorem e_Law_law_976 (a0 a1 a2 a3 : AV) (σ : aM) (x z : Int) (r : List AV)  : ev 213 976 [a0, a1, a2, a3] (aI z :: aI x :: r) σ = ev 213 977 [a0, a1, a2, a3] (aI (wr (x + z)) :: r) σ := ev_go f_Law_law_976 rfl
theorem f_Law_law_977 : fetch 213 977 = some (.iaload) := by decide +kernel
theorem e_Law_law_977 (a0 a1 a2 a3 : AV) (σ : aM) (x : Int) (r : List AV) (h : 0 ≤ x ∧ x < gI σ 34 0 (-1)) : ev 213 977 [a0, a1, a2, a3] (aI x :: aR 34 0 :: r) σ = ev 213 978 [a0, a1, a2, a3] (aI (gI σ 34 0 x) :: r) σ := ev_ldS f_Law_law_977 rfl h
theorem f_Law_law_978 : fetch 213 978 = some (.aload_n 0) := by decide +kernel
theorem e_Law_law_978 (a1 a2 a3 : AV) (σ : aM) (l0 : Option (Nat × Int)) (r : List AV)  : ev 213 978 [aQ l0, a1, a2, a3] (r) σ = ev 213 979 [aQ l0, a1, a2, a3] (aQ l0 :: r) σ := ev_go f_Law_law_978 rfl
theorem f_Law_law_979 : fetch 213 979 = some (.iload_n 3) := by decide +kernel
theorem e_Law_law_979 (a0 a1 a2 : AV) (σ : aM) (l3 : Int) (r : List AV)  : ev 213 979 [a0, a1, a2, aI l3] (r) σ = ev 213 980 [a0, a1, a2, aI l3] (aI l3 :: r) σ := ev_go f_Law_law_979 rfl
theorem f_Law_law_980 : fetch 213 980 = some (.iconst 2) := by decide +kernel
theorem e_Law_law_980 (a0 a1 a2 a3 : AV) (σ : aM) (r : List AV)  : ev 213 980 [a0, a1, a2, a3] (r) σ = ev 213 981 [a0, a1, a2, a3] (aI 2 :: r) σ := ev_go f_Law_law_980 rfl
theorem f_Law_law_981 : fetch 213 981 = some (.iadd) := by decide +kernel
theorem e_Law_law_981 (a0 a1 a2 a3 : AV) (σ : aM) (x z : Int) (r : List AV)  : ev 213 981 [a0, a1, a2, a3] (aI z :: aI x :: r) σ = ev 213 982 [a0, a1, a2, a3] (aI (wr (x + z)) :: r) σ := ev_go f_Law_law_981 rfl
theorem f_Law_law_982 : fetch 213 982 = some (.iaload) := by decide +kernel
theorem e_Law_law_982 (a0 a1 a2 a3 : AV) (σ : aM) (x : Int) (r : List AV) (h : 0 ≤ x ∧ x < gI σ 34 0 (-1)) : ev 213 982 [a0, a1, a2, a3] (aI x :: aR 34 0 :: r) σ = ev 213 983 [a0, a1, a2, a3] (aI (gI σ 34 0 x) :: r) σ := ev_ldS f_Law_law_982 rfl h
theorem f_Law_law_983 : fetch 213 983 = some (.invokevirtual 107) := by decide +kernel
theorem e_Law_law_983 (a0 a1 a2 a3 : AV) (σ : aM) (s0 : Int) (s1 : Int) (s2 : Int) : ev 213 983 [a0, a1, a2, a3] [aI s2, aI s1, aR 0 s0] σ = evK 213 986 [a0, a1, a2, a3] [] (ev 99 0 [aR 0 s0, aI s1, aI s2, aU] [] σ) := ev_call f_Law_law_983 rfl rfl
theorem f_Law_law_986 : fetch 213 986 = some (.aload_n 2) := by decide +kernel
theorem e_Law_law_986 (a0 a1 a3 : AV) (σ : aM) (l2 : Option (Nat × Int)) (r : List AV)  : ev 213 986 [a0, a1, aQ l2, a3] (r) σ = ev 213 987 [a0, a1, aQ l2, a3] (aQ l2 :: r) σ := ev_go f_Law_law_986 rfl
theorem f_Law_law_987 : fetch 213 987 = some (.aload_n 0) := by decide +kernel
theorem e_Law_law_987 (a1 a2 a3 : AV) (σ : aM) (l0 : Option (Nat × Int)) (r : List AV)  : ev 213 987 [aQ l0, a1, a2, a3] (r) σ = ev 213 988 [aQ l0, a1, a2, a3] (aQ l0 :: r) σ := ev_go f_Law_law_987 rfl
theorem f_Law_law_988 : fetch 213 988 = some (.iload_n 3) := by decide +kernel
theorem e_Law_law_988 (a0 a1 a2 : AV) (σ : aM) (l3 : Int) (r : List AV)  : ev 213 988 [a0, a1, a2, aI l3] (r) σ = ev 213 989 [a0, a1, a2, aI l3] (aI l3 :: r) σ := ev_go f_Law_law_988 rfl
theorem f_Law_law_989 : fetch 213 989 = some (.iconst 1) := by decide +kernel
theorem e_Law_law_989 (a0 a1 a2 a3 : AV) (σ : aM) (r : List AV)  : ev 213 989 [a0, a1, a2, a3] (r) σ = ev 213 990 [a0, a1, a2, a3] (aI 1 :: r) σ := ev_go f_Law_law_989 rfl
theorem f_Law_law_990 : fetch 213 990 = some (.iadd) := by decide +kernel
theorem e_Law_law_990 (a0 a1 a2 a3 : AV) (σ : aM) (x z : Int) (r : List AV)  : ev 213 990 [a0, a1, a2, a3] (aI z :: aI x :: r) σ = ev 213 991 [a0, a1, a2, a3] (aI (wr (x + z)) :: r) σ := ev_go f_Law_law_990 rfl
theorem f_Law_law_991 : fetch 213 991 = some (.iaload) := by decide +kernel
theorem e_Law_law_991 (a0 a1 a2 a3 : AV) (σ : aM) (x : Int) (r : List AV) (h : 0 ≤ x ∧ x < gI σ 34 0 (-1)) : ev 213 991 [a0, a1, a2, a3] (aI x :: aR 34 0 :: r) σ = ev 213 992 [a0, a1, a2, a3] (aI (gI σ 34 0 x) :: r) σ := ev_ldS f_Law_law_991 rfl h
theorem f_Law_law_992 : fetch 213 992 = some (.aload_n 0) := by decide +kernel
theorem e_Law_law_992 (a1 a2 a3 : AV) (σ : aM) (l0 : Option (Nat × Int)) (r : List AV)  : ev 213 992 [aQ l0, a1, a2, a3] (r) σ = ev 213 993 [aQ l0, a1, a2, a3] (aQ l0 :: r) σ := ev_go f_Law_law_992 rfl
theorem f_Law_law_993 : fetch 213 993 = some (.iload_n 3) := by decide +kernel
theorem e_Law_law_993 (a0 a1 a2 : AV) (σ : aM) (l3 : Int) (r : List AV)  : ev 213 993 [a0, a1, a2, aI l3] (r) σ = ev 213 994 [a0, a1, a2, aI l3] (aI l3 :: r) σ := ev_go f_Law_law_993 rfl
theorem f_Law_law_994 : fetch 213 994 = some (.iconst 2) := by decide +kernel
theorem e_Law_law_994 (a0 a1 a2 a3 : AV) (σ : aM) (r : List AV)  : ev 213 994 [a0, a1, a2, a3] (r) σ = ev 213 995 [a0, a1, a2, a3] (aI 2 :: r) σ := ev_go f_Law_law_994 rfl
theorem f_Law_law_995 : fetch 213 995 = some (.iadd) := by decide +kernel
theorem e_Law_law_995 (a0 a1 a2 a3 : AV) (σ : aM) (x z : Int) (r : List AV)  : ev 213 995 [a0, a1, a2, a3] (aI z :: aI x :: r) σ = ev 213 996 [a0, a1, a2, a3] (aI (wr (x + z)) :: r) σ := ev_go f_Law_law_995 rfl
theorem f_Law_law_996 : fetch 213 996 = some (.iaload) := by decide +kernel
theorem e_Law_law_996 (a0 a1 a2 a3 : AV) (σ : aM) (x : Int) (r : List AV) (h : 0 ≤ x ∧ x < gI σ 34 0 (-1)) : ev 213 996 [a0, a1, a2, a3] (aI x :: aR 34 0 :: r) σ = ev 213 997 [a0, a1, a2, a3] (aI (gI σ 34 0 x) :: r) σ := ev_ldS f_Law_law_996 rfl h
theorem f_Law_law_997 : fetch 213 997 = some (.invokevirtual 110) := by decide +kernel
theorem e_Law_law_997 (a0 a1 a2 a3 : AV) (σ : aM) (s0 : Int) (s1 : Int) (s2 : Int) (s3 : Int) : ev 213 997 [a0, a1, a2, a3] [aI s3, aI s2, aR 25 s1, aI s0] σ = evK 213 1000 [a0, a1, a2, a3] [aI s0] (ev 195 0 [aR 25 s1, aI s2, aI s3] [] σ) := ev_call f_Law_law_997 rfl rfl
theorem f_Law_law_1000 : fetch 213 1000 = some (.if_icmp .eq 324) := by decide +kernel
theorem e_Law_law_1000 (a0 a1 a2 a3 : AV) (σ : aM) (x z : Int) (r : List AV) : ev 213 1000 [a0, a1, a2, a3] (aI z :: aI x :: r) σ = if x = z then ev 213 1324 [a0, a1, a2, a3] r σ else ev 213 1003 [a0, a1, a2, a3] r σ := ev_br f_Law_law_1000 rfl bc_eq
theorem f_Law_law_1003 : fetch 213 1003 = some (.iconst 0) := by decide +kernel
theorem e_Law_law_1003 (a0 a1 a2 a3 : AV) (σ : aM) (r : List AV)  : ev 213 1003 [a0, a1, a2, a3] (r) σ = ev 213 1004 [a0, a1, a2, a3] (aI 0 :: r) σ := ev_go f_Law_law_1003 rfl
theorem f_Law_law_1004 : fetch 213 1004 = some (.ireturn) := by decide +kernel
theorem e_Law_law_1004 (a0 a1 a2 a3 : AV) (σ : aM) (x : Int) (h : x = 0 ∨ x = 1) : ev 213 1004 [a0, a1, a2, a3] [aI x] σ = some ((some (aI x)), σ) := ev_rB f_Law_law_1004 rfl h
theorem f_Law_law_1005 : fetch 213 1005 = some (.aload_n 1) := by decide +kernel
theorem e_Law_law_1005 (a0 a2 a3 : AV) (σ : aM) (l1 : Option (Nat × Int)) (r : List AV)  : ev 213 1005 [a0, aQ l1, a2, a3] (r) σ = ev 213 1006 [a0, aQ l1, a2, a3] (aQ l1 :: r) σ := ev_go f_Law_law_1005 rfl
theorem f_Law_law_1006 : fetch 213 1006 = some (.aload_n 0) := by decide +kernel
theorem e_Law_law_1006 (a1 a2 a3 : AV) (σ : aM) (l0 : Option (Nat × Int)) (r : List AV)  : ev 213 1006 [aQ l0, a1, a2, a3] (r) σ = ev 213 1007 [aQ l0, a1, a2, a3] (aQ l0 :: r) σ := ev_go f_Law_law_1006 rfl
theorem f_Law_law_1007 : fetch 213 1007 = some (.iload_n 3) := by decide +kernel
theorem e_Law_law_1007 (a0 a1 a2 : AV) (σ : aM) (l3 : Int) (r : List AV)  : ev 213 1007 [a0, a1, a2, aI l3] (r) σ = ev 213 1008 [a0, a1, a2, aI l3] (aI l3 :: r) σ := ev_go f_Law_law_1007 rfl
theorem f_Law_law_1008 : fetch 213 1008 = some (.iconst 1) := by decide +kernel
theorem e_Law_law_1008 (a0 a1 a2 a3 : AV) (σ : aM) (r : List AV)  : ev 213 1008 [a0, a1, a2, a3] (r) σ = ev 213 1009 [a0, a1, a2, a3] (aI 1 :: r) σ := ev_go f_Law_law_1008 rfl
theorem f_Law_law_1009 : fetch 213 1009 = some (.iadd) := by decide +kernel
theorem e_Law_law_1009 (a0 a1 a2 a3 : AV) (σ : aM) (x z : Int) (r : List AV)  : ev 213 1009 [a0, a1, a2, a3] (aI z :: aI x :: r) σ = ev 213 1010 [a0, a1, a2, a3] (aI (wr (x + z)) :: r) σ := ev_go f_Law_law_1009 rfl
theorem f_Law_law_1010 : fetch 213 1010 = some (.iaload) := by decide +kernel
theorem e_Law_law_1010 (a0 a1 a2 a3 : AV) (σ : aM) (x : Int) (r : List AV) (h : 0 ≤ x ∧ x < gI σ 34 0 (-1)) : ev 213 1010 [a0, a1, a2, a3] (aI x :: aR 34 0 :: r) σ = ev 213 1011 [a0, a1, a2, a3] (aI (gI σ 34 0 x) :: r) σ := ev_ldS f_Law_law_1010 rfl h
theorem f_Law_law_1011 : fetch 213 1011 = some (.aload_n 0) := by decide +kernel
theorem e_Law_law_1011 (a1 a2 a3 : AV) (σ : aM) (l0 : Option (Nat × Int)) (r : List AV)  : ev 213 1011 [aQ l0, a1, a2, a3] (r) σ = ev 213 1012 [aQ l0, a1, a2, a3] (aQ l0 :: r) σ := ev_go f_Law_law_1011 rfl
theorem f_Law_law_1012 : fetch 213 1012 = some (.iload_n 3) := by decide +kernel
theorem e_Law_law_1012 (a0 a1 a2 : AV) (σ : aM) (l3 : Int) (r : List AV)  : ev 213 1012 [a0, a1, a2, aI l3] (r) σ = ev 213 1013 [a0, a1, a2, aI l3] (aI l3 :: r) σ := ev_go f_Law_law_1012 rfl
theorem f_Law_law_1013 : fetch 213 1013 = some (.iconst 2) := by decide +kernel
theorem e_Law_law_1013 (a0 a1 a2 a3 : AV) (σ : aM) (r : List AV)  : ev 213 1013 [a0, a1, a2, a3] (r) σ = ev 213 1014 [a0, a1, a2, a3] (aI 2 :: r) σ := ev_go f_Law_law_1013 rfl
theorem f_Law_law_1014 : fetch 213 1014 = some (.iadd) := by decide +kernel
theorem e_Law_law_1014 (a0 a1 a2 a3 : AV) (σ : aM) (x z : Int) (r : List AV)  : ev 213 1014 [a0, a1, a2, a3] (aI z :: aI x :: r) σ = ev 213 1015 [a0, a1, a2, a3] (aI (wr (x + z)) :: r) σ := ev_go f_Law_law_1014 rfl
theorem f_Law_law_1015 : fetch 213 1015 = some (.iaload) := by decide +kernel
theorem e_Law_law_1015 (a0 a1 a2 a3 : AV) (σ : aM) (x : Int) (r : List AV) (h : 0 ≤ x ∧ x < gI σ 34 0 (-1)) : ev 213 1015 [a0, a1, a2, a3] (aI x :: aR 34 0 :: r) σ = ev 213 1016 [a0, a1, a2, a3] (aI (gI σ 34 0 x) :: r) σ := ev_ldS f_Law_law_1015 rfl h
theorem f_Law_law_1016 : fetch 213 1016 = some (.aload_n 0) := by decide +kernel
theorem e_Law_law_1016 (a1 a2 a3 : AV) (σ : aM) (l0 : Option (Nat × Int)) (r : List AV)  : ev 213 1016 [aQ l0, a1, a2, a3] (r) σ = ev 213 1017 [aQ l0, a1, a2, a3] (aQ l0 :: r) σ := ev_go f_Law_law_1016 rfl
theorem f_Law_law_1017 : fetch 213 1017 = some (.iload_n 3) := by decide +kernel
theorem e_Law_law_1017 (a0 a1 a2 : AV) (σ : aM) (l3 : Int) (r : List AV)  : ev 213 1017 [a0, a1, a2, aI l3] (r) σ = ev 213 1018 [a0, a1, a2, aI l3] (aI l3 :: r) σ := ev_go f_Law_law_1017 rfl
theorem f_Law_law_1018 : fetch 213 1018 = some (.iconst 3) := by decide +kernel
theorem e_Law_law_1018 (a0 a1 a2 a3 : AV) (σ : aM) (r : List AV)  : ev 213 1018 [a0, a1, a2, a3] (r) σ = ev 213 1019 [a0, a1, a2, a3] (aI 3 :: r) σ := ev_go f_Law_law_1018 rfl
theorem f_Law_law_1019 : fetch 213 1019 = some (.iadd) := by decide +kernel
theorem e_Law_law_1019 (a0 a1 a2 a3 : AV) (σ : aM) (x z : Int) (r : List AV)  : ev 213 1019 [a0, a1, a2, a3] (aI z :: aI x :: r) σ = ev 213 1020 [a0, a1, a2, a3] (aI (wr (x + z)) :: r) σ := ev_go f_Law_law_1019 rfl
theorem f_Law_law_1020 : fetch 213 1020 = some (.iaload) := by decide +kernel
theorem e_Law_law_1020 (a0 a1 a2 a3 : AV) (σ : aM) (x : Int) (r : List AV) (h : 0 ≤ x ∧ x < gI σ 34 0 (-1)) : ev 213 1020 [a0, a1, a2, a3] (aI x :: aR 34 0 :: r) σ = ev 213 1021 [a0, a1, a2, a3] (aI (gI σ 34 0 x) :: r) σ := ev_ldS f_Law_law_1020 rfl h
theorem f_Law_law_1021 : fetch 213 1021 = some (.invokevirtual 111) := by decide +kernel
theorem e_Law_law_1021 (a0 a1 a2 a3 : AV) (σ : aM) (s0 : Int) (s1 : Int) (s2 : Int) (s3 : Int) : ev 213 1021 [a0, a1, a2, a3] [aI s3, aI s2, aI s1, aR 0 s0] σ = evK 213 1024 [a0, a1, a2, a3] [] (ev 100 0 [aR 0 s0, aI s1, aI s2, aI s3, aU] [] σ) := ev_call f_Law_law_1021 rfl rfl
theorem f_Law_law_1024 : fetch 213 1024 = some (.aload_n 2) := by decide +kernel
theorem e_Law_law_1024 (a0 a1 a3 : AV) (σ : aM) (l2 : Option (Nat × Int)) (r : List AV)  : ev 213 1024 [a0, a1, aQ l2, a3] (r) σ = ev 213 1025 [a0, a1, aQ l2, a3] (aQ l2 :: r) σ := ev_go f_Law_law_1024 rfl
theorem f_Law_law_1025 : fetch 213 1025 = some (.aload_n 0) := by decide +kernel
theorem e_Law_law_1025 (a1 a2 a3 : AV) (σ : aM) (l0 : Option (Nat × Int)) (r : List AV)  : ev 213 1025 [aQ l0, a1, a2, a3] (r) σ = ev 213 1026 [aQ l0, a1, a2, a3] (aQ l0 :: r) σ := ev_go f_Law_law_1025 rfl
theorem f_Law_law_1026 : fetch 213 1026 = some (.iload_n 3) := by decide +kernel
theorem e_Law_law_1026 (a0 a1 a2 : AV) (σ : aM) (l3 : Int) (r : List AV)  : ev 213 1026 [a0, a1, a2, aI l3] (r) σ = ev 213 1027 [a0, a1, a2, aI l3] (aI l3 :: r) σ := ev_go f_Law_law_1026 rfl
theorem f_Law_law_1027 : fetch 213 1027 = some (.iconst 1) := by decide +kernel
theorem e_Law_law_1027 (a0 a1 a2 a3 : AV) (σ : aM) (r : List AV)  : ev 213 1027 [a0, a1, a2, a3] (r) σ = ev 213 1028 [a0, a1, a2, a3] (aI 1 :: r) σ := ev_go f_Law_law_1027 rfl
theorem f_Law_law_1028 : fetch 213 1028 = some (.iadd) := by decide +kernel
theorem e_Law_law_1028 (a0 a1 a2 a3 : AV) (σ : aM) (x z : Int) (r : List AV)  : ev 213 1028 [a0, a1, a2, a3] (aI z :: aI x :: r) σ = ev 213 1029 [a0, a1, a2, a3] (aI (wr (x + z)) :: r) σ := ev_go f_Law_law_1028 rfl
theorem f_Law_law_1029 : fetch 213 1029 = some (.iaload) := by decide +kernel
theorem e_Law_law_1029 (a0 a1 a2 a3 : AV) (σ : aM) (x : Int) (r : List AV) (h : 0 ≤ x ∧ x < gI σ 34 0 (-1)) : ev 213 1029 [a0, a1, a2, a3] (aI x :: aR 34 0 :: r) σ = ev 213 1030 [a0, a1, a2, a3] (aI (gI σ 34 0 x) :: r) σ := ev_ldS f_Law_law_1029 rfl h
theorem f_Law_law_1030 : fetch 213 1030 = some (.aload_n 0) := by decide +kernel
theorem e_Law_law_1030 (a1 a2 a3 : AV) (σ : aM) (l0 : Option (Nat × Int)) (r : List AV)  : ev 213 1030 [aQ l0, a1, a2, a3] (r) σ = ev 213 1031 [aQ l0, a1, a2, a3] (aQ l0 :: r) σ := ev_go f_Law_law_1030 rfl
theorem f_Law_law_1031 : fetch 213 1031 = some (.iload_n 3) := by decide +kernel
theorem e_Law_law_1031 (a0 a1 a2 : AV) (σ : aM) (l3 : Int) (r : List AV)  : ev 213 1031 [a0, a1, a2, aI l3] (r) σ = ev 213 1032 [a0, a1, a2, aI l3] (aI l3 :: r) σ := ev_go f_Law_law_1031 rfl
theorem f_Law_law_1032 : fetch 213 1032 = some (.iconst 2) := by decide +kernel
theorem e_Law_law_1032 (a0 a1 a2 a3 : AV) (σ : aM) (r : List AV)  : ev 213 1032 [a0, a1, a2, a3] (r) σ = ev 213 1033 [a0, a1, a2, a3] (aI 2 :: r) σ := ev_go f_Law_law_1032 rfl
theorem f_Law_law_1033 : fetch 213 1033 = some (.iadd) := by decide +kernel
theorem e_Law_law_1033 (a0 a1 a2 a3 : AV) (σ : aM) (x z : Int) (r : List AV)  : ev 213 1033 [a0, a1, a2, a3] (aI z :: aI x :: r) σ = ev 213 1034 [a0, a1, a2, a3] (aI (wr (x + z)) :: r) σ := ev_go f_Law_law_1033 rfl
theorem f_Law_law_1034 : fetch 213 1034 = some (.iaload) := by decide +kernel
theorem e_Law_law_1034 (a0 a1 a2 a3 : AV) (σ : aM) (x : Int) (r : List AV) (h : 0 ≤ x ∧ x < gI σ 34 0 (-1)) : ev 213 1034 [a0, a1, a2, a3] (aI x :: aR 34 0 :: r) σ = ev 213 1035 [a0, a1, a2, a3] (aI (gI σ 34 0 x) :: r) σ := ev_ldS f_Law_law_1034 rfl h
theorem f_Law_law_1035 : fetch 213 1035 = some (.aload_n 0) := by decide +kernel
theorem e_Law_law_1035 (a1 a2 a3 : AV) (σ : aM) (l0 : Option (Nat × Int)) (r : List AV)  : ev 213 1035 [aQ l0, a1, a2, a3] (r) σ = ev 213 1036 [aQ l0, a1, a2, a3] (aQ l0 :: r) σ := ev_go f_Law_law_1035 rfl
theorem f_Law_law_1036 : fetch 213 1036 = some (.iload_n 3) := by decide +kernel
theorem e_Law_law_1036 (a0 a1 a2 : AV) (σ : aM) (l3 : Int) (r : List AV)  : ev 213 1036 [a0, a1, a2, aI l3] (r) σ = ev 213 1037 [a0, a1, a2, aI l3] (aI l3 :: r) σ := ev_go f_Law_law_1036 rfl
theorem f_Law_law_1037 : fetch 213 1037 = some (.iconst 3) := by decide +kernel
theorem e_Law_law_1037 (a0 a1 a2 a3 : AV) (σ : aM) (r : List AV)  : ev 213 1037 [a0, a1, a2, a3] (r) σ = ev 213 1038 [a0, a1, a2, a3] (aI 3 :: r) σ := ev_go f_Law_law_1037 rfl
theorem f_Law_law_1038 : fetch 213 1038 = some (.iadd) := by decide +kernel
theorem e_Law_law_1038 (a0 a1 a2 a3 : AV) (σ : aM) (x z : Int) (r : List AV)  : ev 213 1038 [a0, a1, a2, a3] (aI z :: aI x :: r) σ = ev 213 1039 [a0, a1, a2, a3] (aI (wr (x + z)) :: r) σ := ev_go f_Law_law_1038 rfl
theorem f_Law_law_1039 : fetch 213 1039 = some (.iaload) := by decide +kernel
theorem e_Law_law_1039 (a0 a1 a2 a3 : AV) (σ : aM) (x : Int) (r : List AV) (h : 0 ≤ x ∧ x < gI σ 34 0 (-1)) : ev 213 1039 [a0, a1, a2, a3] (aI x :: aR 34 0 :: r) σ = ev 213 1040 [a0, a1, a2, a3] (aI (gI σ 34 0 x) :: r) σ := ev_ldS f_Law_law_1039 rfl h
theorem f_Law_law_1040 : fetch 213 1040 = some (.invokevirtual 114) := by decide +kernel
theorem e_Law_law_1040 (a0 a1 a2 a3 : AV) (σ : aM) (s0 : Int) (s1 : Int) (s2 : Int) (s3 : Int) (s4 : Int) : ev 213 1040 [a0, a1, a2, a3] [aI s4, aI s3, aI s2, aR 25 s1, aI s0] σ = evK 213 1043 [a0, a1, a2, a3] [aI s0] (ev 196 0 [aR 25 s1, aI s2, aI s3, aI s4, aU, aU, aU, aU, aU] [] σ) := ev_call f_Law_law_1040 rfl rfl
theorem f_Law_law_1043 : fetch 213 1043 = some (.if_icmp .eq 281) := by decide +kernel
theorem e_Law_law_1043 (a0 a1 a2 a3 : AV) (σ : aM) (x z : Int) (r : List AV) : ev 213 1043 [a0, a1, a2, a3] (aI z :: aI x :: r) σ = if x = z then ev 213 1324 [a0, a1, a2, a3] r σ else ev 213 1046 [a0, a1, a2, a3] r σ := ev_br f_Law_law_1043 rfl bc_eq
theorem f_Law_law_1046 : fetch 213 1046 = some (.iconst 0) := by decide +kernel
theorem e_Law_law_1046 (a0 a1 a2 a3 : AV) (σ : aM) (r : List AV)  : ev 213 1046 [a0, a1, a2, a3] (r) σ = ev 213 1047 [a0, a1, a2, a3] (aI 0 :: r) σ := ev_go f_Law_law_1046 rfl
theorem f_Law_law_1047 : fetch 213 1047 = some (.ireturn) := by decide +kernel
theorem e_Law_law_1047 (a0 a1 a2 a3 : AV) (σ : aM) (x : Int) (h : x = 0 ∨ x = 1) : ev 213 1047 [a0, a1, a2, a3] [aI x] σ = some ((some (aI x)), σ) := ev_rB f_Law_law_1047 rfl h
theorem f_Law_law_1048 : fetch 213 1048 = some (.aload_n 1) := by decide +kernel
theorem e_Law_law_1048 (a0 a2 a3 : AV) (σ : aM) (l1 : Option (Nat × Int)) (r : List AV)  : ev 213 1048 [a0, aQ l1, a2, a3] (r) σ = ev 213 1049 [a0, aQ l1, a2, a3] (aQ l1 :: r) σ := ev_go f_Law_law_1048 rfl
theorem f_Law_law_1049 : fetch 213 1049 = some (.aload_n 0) := by decide +kernel
theorem e_Law_law_1049 (a1 a2 a3 : AV) (σ : aM) (l0 : Option (Nat × Int)) (r : List AV)  : ev 213 1049 [aQ l0, a1, a2, a3] (r) σ = ev 213 1050 [aQ l0, a1, a2, a3] (aQ l0 :: r) σ := ev_go f_Law_law_1049 rfl
theorem f_Law_law_1050 : fetch 213 1050 = some (.iload_n 3) := by decide +kernel
theorem e_Law_law_1050 (a0 a1 a2 : AV) (σ : aM) (l3 : Int) (r : List AV)  : ev 213 1050 [a0, a1, a2, aI l3] (r) σ = ev 213 1051 [a0, a1, a2, aI l3] (aI l3 :: r) σ := ev_go f_Law_law_1050 rfl
theorem f_Law_law_1051 : fetch 213 1051 = some (.iconst 1) := by decide +kernel
theorem e_Law_law_1051 (a0 a1 a2 a3 : AV) (σ : aM) (r : List AV)  : ev 213 1051 [a0, a1, a2, a3] (r) σ = ev 213 1052 [a0, a1, a2, a3] (aI 1 :: r) σ := ev_go f_Law_law_1051 rfl
theorem f_Law_law_1052 : fetch 213 1052 = some (.iadd) := by decide +kernel
theorem e_Law_law_1052 (a0 a1 a2 a3 : AV) (σ : aM) (x z : Int) (r : List AV)  : ev 213 1052 [a0, a1, a2, a3] (aI z :: aI x :: r) σ = ev 213 1053 [a0, a1, a2, a3] (aI (wr (x + z)) :: r) σ := ev_go f_Law_law_1052 rfl
theorem f_Law_law_1053 : fetch 213 1053 = some (.iaload) := by decide +kernel
theorem e_Law_law_1053 (a0 a1 a2 a3 : AV) (σ : aM) (x : Int) (r : List AV) (h : 0 ≤ x ∧ x < gI σ 34 0 (-1)) : ev 213 1053 [a0, a1, a2, a3] (aI x :: aR 34 0 :: r) σ = ev 213 1054 [a0, a1, a2, a3] (aI (gI σ 34 0 x) :: r) σ := ev_ldS f_Law_law_1053 rfl h
theorem f_Law_law_1054 : fetch 213 1054 = some (.invokevirtual 115) := by decide +kernel
theorem e_Law_law_1054 (a0 a1 a2 a3 : AV) (σ : aM) (s0 : Int) (s1 : Int) : ev 213 1054 [a0, a1, a2, a3] [aI s1, aR 0 s0] σ = evK 213 1057 [a0, a1, a2, a3] [] (ev 101 0 [aR 0 s0, aI s1, aU] [] σ) := ev_call f_Law_law_1054 rfl rfl
theorem f_Law_law_1057 : fetch 213 1057 = some (.aload_n 2) := by decide +kernel
theorem e_Law_law_1057 (a0 a1 a3 : AV) (σ : aM) (l2 : Option (Nat × Int)) (r : List AV)  : ev 213 1057 [a0, a1, aQ l2, a3] (r) σ = ev 213 1058 [a0, a1, aQ l2, a3] (aQ l2 :: r) σ := ev_go f_Law_law_1057 rfl
theorem f_Law_law_1058 : fetch 213 1058 = some (.aload_n 0) := by decide +kernel
theorem e_Law_law_1058 (a1 a2 a3 : AV) (σ : aM) (l0 : Option (Nat × Int)) (r : List AV)  : ev 213 1058 [aQ l0, a1, a2, a3] (r) σ = ev 213 1059 [aQ l0, a1, a2, a3] (aQ l0 :: r) σ := ev_go f_Law_law_1058 rfl
theorem f_Law_law_1059 : fetch 213 1059 = some (.iload_n 3) := by decide +kernel
theorem e_Law_law_1059 (a0 a1 a2 : AV) (σ : aM) (l3 : Int) (r : List AV)  : ev 213 1059 [a0, a1, a2, aI l3] (r) σ = ev 213 1060 [a0, a1, a2, aI l3] (aI l3 :: r) σ := ev_go f_Law_law_1059 rfl
theorem f_Law_law_1060 : fetch 213 1060 = some (.iconst 1) := by decide +kernel
theorem e_Law_law_1060 (a0 a1 a2 a3 : AV) (σ : aM) (r : List AV)  : ev 213 1060 [a0, a1, a2, a3] (r) σ = ev 213 1061 [a0, a1, a2, a3] (aI 1 :: r) σ := ev_go f_Law_law_1060 rfl
theorem f_Law_law_1061 : fetch 213 1061 = some (.iadd) := by decide +kernel
theorem e_Law_law_1061 (a0 a1 a2 a3 : AV) (σ : aM) (x z : Int) (r : List AV)  : ev 213 1061 [a0, a1, a2, a3] (aI z :: aI x :: r) σ = ev 213 1062 [a0, a1, a2, a3] (aI (wr (x + z)) :: r) σ := ev_go f_Law_law_1061 rfl
theorem f_Law_law_1062 : fetch 213 1062 = some (.iaload) := by decide +kernel
theorem e_Law_law_1062 (a0 a1 a2 a3 : AV) (σ : aM) (x : Int) (r : List AV) (h : 0 ≤ x ∧ x < gI σ 34 0 (-1)) : ev 213 1062 [a0, a1, a2, a3] (aI x :: aR 34 0 :: r) σ = ev 213 1063 [a0, a1, a2, a3] (aI (gI σ 34 0 x) :: r) σ := ev_ldS f_Law_law_1062 rfl h
theorem f_Law_law_1063 : fetch 213 1063 = some (.invokevirtual 118) := by decide +kernel
theorem e_Law_law_1063 (a0 a1 a2 a3 : AV) (σ : aM) (s0 : Int) (s1 : Int) (s2 : Int) : ev 213 1063 [a0, a1, a2, a3] [aI s2, aR 25 s1, aI s0] σ = evK 213 1066 [a0, a1, a2, a3] [aI s0] (ev 197 0 [aR 25 s1, aI s2, aU, aU] [] σ) := ev_call f_Law_law_1063 rfl rfl
theorem f_Law_law_1066 : fetch 213 1066 = some (.if_icmp .eq 258) := by decide +kernel
theorem e_Law_law_1066 (a0 a1 a2 a3 : AV) (σ : aM) (x z : Int) (r : List AV) : ev 213 1066 [a0, a1, a2, a3] (aI z :: aI x :: r) σ = if x = z then ev 213 1324 [a0, a1, a2, a3] r σ else ev 213 1069 [a0, a1, a2, a3] r σ := ev_br f_Law_law_1066 rfl bc_eq
theorem f_Law_law_1069 : fetch 213 1069 = some (.iconst 0) := by decide +kernel
theorem e_Law_law_1069 (a0 a1 a2 a3 : AV) (σ : aM) (r : List AV)  : ev 213 1069 [a0, a1, a2, a3] (r) σ = ev 213 1070 [a0, a1, a2, a3] (aI 0 :: r) σ := ev_go f_Law_law_1069 rfl
theorem f_Law_law_1070 : fetch 213 1070 = some (.ireturn) := by decide +kernel
theorem e_Law_law_1070 (a0 a1 a2 a3 : AV) (σ : aM) (x : Int) (h : x = 0 ∨ x = 1) : ev 213 1070 [a0, a1, a2, a3] [aI x] σ = some ((some (aI x)), σ) := ev_rB f_Law_law_1070 rfl h
theorem f_Law_law_1071 : fetch 213 1071 = some (.aload_n 1) := by decide +kernel
theorem e_Law_law_1071 (a0 a2 a3 : AV) (σ : aM) (l1 : Option (Nat × Int)) (r : List AV)  : ev 213 1071 [a0, aQ l1, a2, a3] (r) σ = ev 213 1072 [a0, aQ l1, a2, a3] (aQ l1 :: r) σ := ev_go f_Law_law_1071 rfl
theorem f_Law_law_1072 : fetch 213 1072 = some (.aload_n 0) := by decide +kernel
theorem e_Law_law_1072 (a1 a2 a3 : AV) (σ : aM) (l0 : Option (Nat × Int)) (r : List AV)  : ev 213 1072 [aQ l0, a1, a2, a3] (r) σ = ev 213 1073 [aQ l0, a1, a2, a3] (aQ l0 :: r) σ := ev_go f_Law_law_1072 rfl
theorem f_Law_law_1073 : fetch 213 1073 = some (.iload_n 3) := by decide +kernel
theorem e_Law_law_1073 (a0 a1 a2 : AV) (σ : aM) (l3 : Int) (r : List AV)  : ev 213 1073 [a0, a1, a2, aI l3] (r) σ = ev 213 1074 [a0, a1, a2, aI l3] (aI l3 :: r) σ := ev_go f_Law_law_1073 rfl
theorem f_Law_law_1074 : fetch 213 1074 = some (.iconst 1) := by decide +kernel
theorem e_Law_law_1074 (a0 a1 a2 a3 : AV) (σ : aM) (r : List AV)  : ev 213 1074 [a0, a1, a2, a3] (r) σ = ev 213 1075 [a0, a1, a2, a3] (aI 1 :: r) σ := ev_go f_Law_law_1074 rfl
theorem f_Law_law_1075 : fetch 213 1075 = some (.iadd) := by decide +kernel
theorem e_Law_law_1075 (a0 a1 a2 a3 : AV) (σ : aM) (x z : Int) (r : List AV)  : ev 213 1075 [a0, a1, a2, a3] (aI z :: aI x :: r) σ = ev 213 1076 [a0, a1, a2, a3] (aI (wr (x + z)) :: r) σ := ev_go f_Law_law_1075 rfl
theorem f_Law_law_1076 : fetch 213 1076 = some (.iaload) := by decide +kernel
theorem e_Law_law_1076 (a0 a1 a2 a3 : AV) (σ : aM) (x : Int) (r : List AV) (h : 0 ≤ x ∧ x < gI σ 34 0 (-1)) : ev 213 1076 [a0, a1, a2, a3] (aI x :: aR 34 0 :: r) σ = ev 213 1077 [a0, a1, a2, a3] (aI (gI σ 34 0 x) :: r) σ := ev_ldS f_Law_law_1076 rfl h
theorem f_Law_law_1077 : fetch 213 1077 = some (.aload_n 0) := by decide +kernel
theorem e_Law_law_1077 (a1 a2 a3 : AV) (σ : aM) (l0 : Option (Nat × Int)) (r : List AV)  : ev 213 1077 [aQ l0, a1, a2, a3] (r) σ = ev 213 1078 [aQ l0, a1, a2, a3] (aQ l0 :: r) σ := ev_go f_Law_law_1077 rfl
theorem f_Law_law_1078 : fetch 213 1078 = some (.iload_n 3) := by decide +kernel
theorem e_Law_law_1078 (a0 a1 a2 : AV) (σ : aM) (l3 : Int) (r : List AV)  : ev 213 1078 [a0, a1, a2, aI l3] (r) σ = ev 213 1079 [a0, a1, a2, aI l3] (aI l3 :: r) σ := ev_go f_Law_law_1078 rfl
theorem f_Law_law_1079 : fetch 213 1079 = some (.iconst 2) := by decide +kernel
theorem e_Law_law_1079 (a0 a1 a2 a3 : AV) (σ : aM) (r : List AV)  : ev 213 1079 [a0, a1, a2, a3] (r) σ = ev 213 1080 [a0, a1, a2, a3] (aI 2 :: r) σ := ev_go f_Law_law_1079 rfl
theorem f_Law_law_1080 : fetch 213 1080 = some (.iadd) := by decide +kernel
theorem e_Law_law_1080 (a0 a1 a2 a3 : AV) (σ : aM) (x z : Int) (r : List AV)  : ev 213 1080 [a0, a1, a2, a3] (aI z :: aI x :: r) σ = ev 213 1081 [a0, a1, a2, a3] (aI (wr (x + z)) :: r) σ := ev_go f_Law_law_1080 rfl
theorem f_Law_law_1081 : fetch 213 1081 = some (.iaload) := by decide +kernel
theorem e_Law_law_1081 (a0 a1 a2 a3 : AV) (σ : aM) (x : Int) (r : List AV) (h : 0 ≤ x ∧ x < gI σ 34 0 (-1)) : ev 213 1081 [a0, a1, a2, a3] (aI x :: aR 34 0 :: r) σ = ev 213 1082 [a0, a1, a2, a3] (aI (gI σ 34 0 x) :: r) σ := ev_ldS f_Law_law_1081 rfl h
theorem f_Law_law_1082 : fetch 213 1082 = some (.invokevirtual 119) := by decide +kernel
theorem e_Law_law_1082 (a0 a1 a2 a3 : AV) (σ : aM) (s0 : Int) (s1 : Int) (s2 : Int) : ev 213 1082 [a0, a1, a2, a3] [aI s2, aI s1, aR 0 s0] σ = evK 213 1085 [a0, a1, a2, a3] [] (ev 102 0 [aR 0 s0, aI s1, aI s2] [] σ) := ev_call f_Law_law_1082 rfl rfl
theorem f_Law_law_1085 : fetch 213 1085 = some (.aload_n 2) := by decide +kernel
theorem e_Law_law_1085 (a0 a1 a3 : AV) (σ : aM) (l2 : Option (Nat × Int)) (r : List AV)  : ev 213 1085 [a0, a1, aQ l2, a3] (r) σ = ev 213 1086 [a0, a1, aQ l2, a3] (aQ l2 :: r) σ := ev_go f_Law_law_1085 rfl
theorem f_Law_law_1086 : fetch 213 1086 = some (.aload_n 0) := by decide +kernel
theorem e_Law_law_1086 (a1 a2 a3 : AV) (σ : aM) (l0 : Option (Nat × Int)) (r : List AV)  : ev 213 1086 [aQ l0, a1, a2, a3] (r) σ = ev 213 1087 [aQ l0, a1, a2, a3] (aQ l0 :: r) σ := ev_go f_Law_law_1086 rfl
theorem f_Law_law_1087 : fetch 213 1087 = some (.iload_n 3) := by decide +kernel
theorem e_Law_law_1087 (a0 a1 a2 : AV) (σ : aM) (l3 : Int) (r : List AV)  : ev 213 1087 [a0, a1, a2, aI l3] (r) σ = ev 213 1088 [a0, a1, a2, aI l3] (aI l3 :: r) σ := ev_go f_Law_law_1087 rfl
theorem f_Law_law_1088 : fetch 213 1088 = some (.iconst 1) := by decide +kernel
theorem e_Law_law_1088 (a0 a1 a2 a3 : AV) (σ : aM) (r : List AV)  : ev 213 1088 [a0, a1, a2, a3] (r) σ = ev 213 1089 [a0, a1, a2, a3] (aI 1 :: r) σ := ev_go f_Law_law_1088 rfl
theorem f_Law_law_1089 : fetch 213 1089 = some (.iadd) := by decide +kernel
theorem e_Law_law_1089 (a0 a1 a2 a3 : AV) (σ : aM) (x z : Int) (r : List AV)  : ev 213 1089 [a0, a1, a2, a3] (aI z :: aI x :: r) σ = ev 213 1090 [a0, a1, a2, a3] (aI (wr (x + z)) :: r) σ := ev_go f_Law_law_1089 rfl
theorem f_Law_law_1090 : fetch 213 1090 = some (.iaload) := by decide +kernel
theorem e_Law_law_1090 (a0 a1 a2 a3 : AV) (σ : aM) (x : Int) (r : List AV) (h : 0 ≤ x ∧ x < gI σ 34 0 (-1)) : ev 213 1090 [a0, a1, a2, a3] (aI x :: aR 34 0 :: r) σ = ev 213 1091 [a0, a1, a2, a3] (aI (gI σ 34 0 x) :: r) σ := ev_ldS f_Law_law_1090 rfl h
theorem f_Law_law_1091 : fetch 213 1091 = some (.aload_n 0) := by decide +kernel
theorem e_Law_law_1091 (a1 a2 a3 : AV) (σ : aM) (l0 : Option (Nat × Int)) (r : List AV)  : ev 213 1091 [aQ l0, a1, a2, a3] (r) σ = ev 213 1092 [aQ l0, a1, a2, a3] (aQ l0 :: r) σ := ev_go f_Law_law_1091 rfl
theorem f_Law_law_1092 : fetch 213 1092 = some (.iload_n 3) := by decide +kernel
theorem e_Law_law_1092 (a0 a1 a2 : AV) (σ : aM) (l3 : Int) (r : List AV)  : ev 213 1092 [a0, a1, a2, aI l3] (r) σ = ev 213 1093 [a0, a1, a2, aI l3] (aI l3 :: r) σ := ev_go f_Law_law_1092 rfl
theorem f_Law_law_1093 : fetch 213 1093 = some (.iconst 2) := by decide +kernel
theorem e_Law_law_1093 (a0 a1 a2 a3 : AV) (σ : aM) (r : List AV)  : ev 213 1093 [a0, a1, a2, a3] (r) σ = ev 213 1094 [a0, a1, a2, a3] (aI 2 :: r) σ := ev_go f_Law_law_1093 rfl
theorem f_Law_law_1094 : fetch 213 1094 = some (.iadd) := by decide +kernel
theorem e_Law_law_1094 (a0 a1 a2 a3 : AV) (σ : aM) (x z : Int) (r : List AV)  : ev 213 1094 [a0, a1, a2, a3] (aI z :: aI x :: r) σ = ev 213 1095 [a0, a1, a2, a3] (aI (wr (x + z)) :: r) σ := ev_go f_Law_law_1094 rfl
theorem f_Law_law_1095 : fetch 213 1095 = some (.iaload) := by decide +kernel
theorem e_Law_law_1095 (a0 a1 a2 a3 : AV) (σ : aM) (x : Int) (r : List AV) (h : 0 ≤ x ∧ x < gI σ 34 0 (-1)) : ev 213 1095 [a0, a1, a2, a3] (aI x :: aR 34 0 :: r) σ = ev 213 1096 [a0, a1, a2, a3] (aI (gI σ 34 0 x) :: r) σ := ev_ldS f_Law_law_1095 rfl h
theorem f_Law_law_1096 : fetch 213 1096 = some (.invokevirtual 122) := by decide +kernel
theorem e_Law_law_1096 (a0 a1 a2 a3 : AV) (σ : aM) (s0 : Int) (s1 : Int) (s2 : Int) (s3 : Int) : ev 213 1096 [a0, a1, a2, a3] [aI s3, aI s2, aR 25 s1, aI s0] σ = evK 213 1099 [a0, a1, a2, a3] [aI s0] (ev 198 0 [aR 25 s1, aI s2, aI s3, aU, aU, aU, aU, aU] [] σ) := ev_call f_Law_law_1096 rfl rfl
theorem f_Law_law_1099 : fetch 213 1099 = some (.if_icmp .eq 225) := by decide +kernel
theorem e_Law_law_1099 (a0 a1 a2 a3 : AV) (σ : aM) (x z : Int) (r : List AV) : ev 213 1099 [a0, a1, a2, a3] (aI z :: aI x :: r) σ = if x = z then ev 213 1324 [a0, a1, a2, a3] r σ else ev 213 1102 [a0, a1, a2, a3] r σ := ev_br f_Law_law_1099 rfl bc_eq
theorem f_Law_law_1102 : fetch 213 1102 = some (.iconst 0) := by decide +kernel
theorem e_Law_law_1102 (a0 a1 a2 a3 : AV) (σ : aM) (r : List AV)  : ev 213 1102 [a0, a1, a2, a3] (r) σ = ev 213 1103 [a0, a1, a2, a3] (aI 0 :: r) σ := ev_go f_Law_law_1102 rfl
theorem f_Law_law_1103 : fetch 213 1103 = some (.ireturn) := by decide +kernel
theorem e_Law_law_1103 (a0 a1 a2 a3 : AV) (σ : aM) (x : Int) (h : x = 0 ∨ x = 1) : ev 213 1103 [a0, a1, a2, a3] [aI x] σ = some ((some (aI x)), σ) := ev_rB f_Law_law_1103 rfl h
theorem f_Law_law_1104 : fetch 213 1104 = some (.aload_n 1) := by decide +kernel
theorem e_Law_law_1104 (a0 a2 a3 : AV) (σ : aM) (l1 : Option (Nat × Int)) (r : List AV)  : ev 213 1104 [a0, aQ l1, a2, a3] (r) σ = ev 213 1105 [a0, aQ l1, a2, a3] (aQ l1 :: r) σ := ev_go f_Law_law_1104 rfl
theorem f_Law_law_1105 : fetch 213 1105 = some (.invokevirtual 123) := by decide +kernel
theorem e_Law_law_1105 (a0 a1 a2 a3 : AV) (σ : aM) (s0 : Int) : ev 213 1105 [a0, a1, a2, a3] [aR 0 s0] σ = evK 213 1108 [a0, a1, a2, a3] [] (ev 103 0 [aR 0 s0] [] σ) := ev_call f_Law_law_1105 rfl rfl
theorem f_Law_law_1108 : fetch 213 1108 = some (.aload_n 2) := by decide +kernel
theorem e_Law_law_1108 (a0 a1 a3 : AV) (σ : aM) (l2 : Option (Nat × Int)) (r : List AV)  : ev 213 1108 [a0, a1, aQ l2, a3] (r) σ = ev 213 1109 [a0, a1, aQ l2, a3] (aQ l2 :: r) σ := ev_go f_Law_law_1108 rfl
theorem f_Law_law_1109 : fetch 213 1109 = some (.invokevirtual 126) := by decide +kernel
theorem e_Law_law_1109 (a0 a1 a2 a3 : AV) (σ : aM) (s0 : Int) (s1 : Int) : ev 213 1109 [a0, a1, a2, a3] [aR 25 s1, aI s0] σ = evK 213 1112 [a0, a1, a2, a3] [aI s0] (ev 199 0 [aR 25 s1] [] σ) := ev_call f_Law_law_1109 rfl rfl
theorem f_Law_law_1112 : fetch 213 1112 = some (.if_icmp .eq 212) := by decide +kernel
theorem e_Law_law_1112 (a0 a1 a2 a3 : AV) (σ : aM) (x z : Int) (r : List AV) : ev 213 1112 [a0, a1, a2, a3] (aI z :: aI x :: r) σ = if x = z then ev 213 1324 [a0, a1, a2, a3] r σ else ev 213 1115 [a0, a1, a2, a3] r σ := ev_br f_Law_law_1112 rfl bc_eq
theorem f_Law_law_1115 : fetch 213 1115 = some (.iconst 0) := by decide +kernel
theorem e_Law_law_1115 (a0 a1 a2 a3 : AV) (σ : aM) (r : List AV)  : ev 213 1115 [a0, a1, a2, a3] (r) σ = ev 213 1116 [a0, a1, a2, a3] (aI 0 :: r) σ := ev_go f_Law_law_1115 rfl
theorem f_Law_law_1116 : fetch 213 1116 = some (.ireturn) := by decide +kernel
theorem e_Law_law_1116 (a0 a1 a2 a3 : AV) (σ : aM) (x : Int) (h : x = 0 ∨ x = 1) : ev 213 1116 [a0, a1, a2, a3] [aI x] σ = some ((some (aI x)), σ) := ev_rB f_Law_law_1116 rfl h
theorem f_Law_law_1117 : fetch 213 1117 = some (.aload_n 1) := by decide +kernel
theorem e_Law_law_1117 (a0 a2 a3 : AV) (σ : aM) (l1 : Option (Nat × Int)) (r : List AV)  : ev 213 1117 [a0, aQ l1, a2, a3] (r) σ = ev 213 1118 [a0, aQ l1, a2, a3] (aQ l1 :: r) σ := ev_go f_Law_law_1117 rfl
theorem f_Law_law_1118 : fetch 213 1118 = some (.aload_n 0) := by decide +kernel
theorem e_Law_law_1118 (a1 a2 a3 : AV) (σ : aM) (l0 : Option (Nat × Int)) (r : List AV)  : ev 213 1118 [aQ l0, a1, a2, a3] (r) σ = ev 213 1119 [aQ l0, a1, a2, a3] (aQ l0 :: r) σ := ev_go f_Law_law_1118 rfl
theorem f_Law_law_1119 : fetch 213 1119 = some (.iload_n 3) := by decide +kernel
theorem e_Law_law_1119 (a0 a1 a2 : AV) (σ : aM) (l3 : Int) (r : List AV)  : ev 213 1119 [a0, a1, a2, aI l3] (r) σ = ev 213 1120 [a0, a1, a2, aI l3] (aI l3 :: r) σ := ev_go f_Law_law_1119 rfl
theorem f_Law_law_1120 : fetch 213 1120 = some (.iconst 1) := by decide +kernel
theorem e_Law_law_1120 (a0 a1 a2 a3 : AV) (σ : aM) (r : List AV)  : ev 213 1120 [a0, a1, a2, a3] (r) σ = ev 213 1121 [a0, a1, a2, a3] (aI 1 :: r) σ := ev_go f_Law_law_1120 rfl
theorem f_Law_law_1121 : fetch 213 1121 = some (.iadd) := by decide +kernel
theorem e_Law_law_1121 (a0 a1 a2 a3 : AV) (σ : aM) (x z : Int) (r : List AV)  : ev 213 1121 [a0, a1, a2, a3] (aI z :: aI x :: r) σ = ev 213 1122 [a0, a1, a2, a3] (aI (wr (x + z)) :: r) σ := ev_go f_Law_law_1121 rfl
theorem f_Law_law_1122 : fetch 213 1122 = some (.iaload) := by decide +kernel
theorem e_Law_law_1122 (a0 a1 a2 a3 : AV) (σ : aM) (x : Int) (r : List AV) (h : 0 ≤ x ∧ x < gI σ 34 0 (-1)) : ev 213 1122 [a0, a1, a2, a3] (aI x :: aR 34 0 :: r) σ = ev 213 1123 [a0, a1, a2, a3] (aI (gI σ 34 0 x) :: r) σ := ev_ldS f_Law_law_1122 rfl h
theorem f_Law_law_1123 : fetch 213 1123 = some (.aload_n 0) := by decide +kernel
theorem e_Law_law_1123 (a1 a2 a3 : AV) (σ : aM) (l0 : Option (Nat × Int)) (r : List AV)  : ev 213 1123 [aQ l0, a1, a2, a3] (r) σ = ev 213 1124 [aQ l0, a1, a2, a3] (aQ l0 :: r) σ := ev_go f_Law_law_1123 rfl
theorem f_Law_law_1124 : fetch 213 1124 = some (.iload_n 3) := by decide +kernel
theorem e_Law_law_1124 (a0 a1 a2 : AV) (σ : aM) (l3 : Int) (r : List AV)  : ev 213 1124 [a0, a1, a2, aI l3] (r) σ = ev 213 1125 [a0, a1, a2, aI l3] (aI l3 :: r) σ := ev_go f_Law_law_1124 rfl
theorem f_Law_law_1125 : fetch 213 1125 = some (.iconst 2) := by decide +kernel
theorem e_Law_law_1125 (a0 a1 a2 a3 : AV) (σ : aM) (r : List AV)  : ev 213 1125 [a0, a1, a2, a3] (r) σ = ev 213 1126 [a0, a1, a2, a3] (aI 2 :: r) σ := ev_go f_Law_law_1125 rfl
theorem f_Law_law_1126 : fetch 213 1126 = some (.iadd) := by decide +kernel
theorem e_Law_law_1126 (a0 a1 a2 a3 : AV) (σ : aM) (x z : Int) (r : List AV)  : ev 213 1126 [a0, a1, a2, a3] (aI z :: aI x :: r) σ = ev 213 1127 [a0, a1, a2, a3] (aI (wr (x + z)) :: r) σ := ev_go f_Law_law_1126 rfl
theorem f_Law_law_1127 : fetch 213 1127 = some (.iaload) := by decide +kernel
theorem e_Law_law_1127 (a0 a1 a2 a3 : AV) (σ : aM) (x : Int) (r : List AV) (h : 0 ≤ x ∧ x < gI σ 34 0 (-1)) : ev 213 1127 [a0, a1, a2, a3] (aI x :: aR 34 0 :: r) σ = ev 213 1128 [a0, a1, a2, a3] (aI (gI σ 34 0 x) :: r) σ := ev_ldS f_Law_law_1127 rfl h
theorem f_Law_law_1128 : fetch 213 1128 = some (.invokevirtual 127) := by decide +kernel
theorem e_Law_law_1128 (a0 a1 a2 a3 : AV) (σ : aM) (s0 : Int) (s1 : Int) (s2 : Int) : ev 213 1128 [a0, a1, a2, a3] [aI s2, aI s1, aR 0 s0] σ = evK 213 1131 [a0, a1, a2, a3] [] (ev 104 0 [aR 0 s0, aI s1, aI s2] [] σ) := ev_call f_Law_law_1128 rfl rfl
theorem f_Law_law_1131 : fetch 213 1131 = some (.aload_n 2) := by decide +kernel
theorem e_Law_law_1131 (a0 a1 a3 : AV) (σ : aM) (l2 : Option (Nat × Int)) (r : List AV)  : ev 213 1131 [a0, a1, aQ l2, a3] (r) σ = ev 213 1132 [a0, a1, aQ l2, a3] (aQ l2 :: r) σ := ev_go f_Law_law_1131 rfl
theorem f_Law_law_1132 : fetch 213 1132 = some (.aload_n 0) := by decide +kernel
theorem e_Law_law_1132 (a1 a2 a3 : AV) (σ : aM) (l0 : Option (Nat × Int)) (r : List AV)  : ev 213 1132 [aQ l0, a1, a2, a3] (r) σ = ev 213 1133 [aQ l0, a1, a2, a3] (aQ l0 :: r) σ := ev_go f_Law_law_1132 rfl
theorem f_Law_law_1133 : fetch 213 1133 = some (.iload_n 3) := by decide +kernel
theorem e_Law_law_1133 (a0 a1 a2 : AV) (σ : aM) (l3 : Int) (r : List AV)  : ev 213 1133 [a0, a1, a2, aI l3] (r) σ = ev 213 1134 [a0, a1, a2, aI l3] (aI l3 :: r) σ := ev_go f_Law_law_1133 rfl
theorem f_Law_law_1134 : fetch 213 1134 = some (.iconst 1) := by decide +kernel
theorem e_Law_law_1134 (a0 a1 a2 a3 : AV) (σ : aM) (r : List AV)  : ev 213 1134 [a0, a1, a2, a3] (r) σ = ev 213 1135 [a0, a1, a2, a3] (aI 1 :: r) σ := ev_go f_Law_law_1134 rfl
theorem f_Law_law_1135 : fetch 213 1135 = some (.iadd) := by decide +kernel
theorem e_Law_law_1135 (a0 a1 a2 a3 : AV) (σ : aM) (x z : Int) (r : List AV)  : ev 213 1135 [a0, a1, a2, a3] (aI z :: aI x :: r) σ = ev 213 1136 [a0, a1, a2, a3] (aI (wr (x + z)) :: r) σ := ev_go f_Law_law_1135 rfl
theorem f_Law_law_1136 : fetch 213 1136 = some (.iaload) := by decide +kernel
theorem e_Law_law_1136 (a0 a1 a2 a3 : AV) (σ : aM) (x : Int) (r : List AV) (h : 0 ≤ x ∧ x < gI σ 34 0 (-1)) : ev 213 1136 [a0, a1, a2, a3] (aI x :: aR 34 0 :: r) σ = ev 213 1137 [a0, a1, a2, a3] (aI (gI σ 34 0 x) :: r) σ := ev_ldS f_Law_law_1136 rfl h
theorem f_Law_law_1137 : fetch 213 1137 = some (.aload_n 0) := by decide +kernel
theorem e_Law_law_1137 (a1 a2 a3 : AV) (σ : aM) (l0 : Option (Nat × Int)) (r : List AV)  : ev 213 1137 [aQ l0, a1, a2, a3] (r) σ = ev 213 1138 [aQ l0, a1, a2, a3] (aQ l0 :: r) σ := ev_go f_Law_law_1137 rfl
theorem f_Law_law_1138 : fetch 213 1138 = some (.iload_n 3) := by decide +kernel
theorem e_Law_law_1138 (a0 a1 a2 : AV) (σ : aM) (l3 : Int) (r : List AV)  : ev 213 1138 [a0, a1, a2, aI l3] (r) σ = ev 213 1139 [a0, a1, a2, aI l3] (aI l3 :: r) σ := ev_go f_Law_law_1138 rfl
theorem f_Law_law_1139 : fetch 213 1139 = some (.iconst 2) := by decide +kernel
theorem e_Law_law_1139 (a0 a1 a2 a3 : AV) (σ : aM) (r : List AV)  : ev 213 1139 [a0, a1, a2, a3] (r) σ = ev 213 1140 [a0, a1, a2, a3] (aI 2 :: r) σ := ev_go f_Law_law_1139 rfl
theorem f_Law_law_1140 : fetch 213 1140 = some (.iadd) := by decide +kernel
theorem e_Law_law_1140 (a0 a1 a2 a3 : AV) (σ : aM) (x z : Int) (r : List AV)  : ev 213 1140 [a0, a1, a2, a3] (aI z :: aI x :: r) σ = ev 213 1141 [a0, a1, a2, a3] (aI (wr (x + z)) :: r) σ := ev_go f_Law_law_1140 rfl
theorem f_Law_law_1141 : fetch 213 1141 = some (.iaload) := by decide +kernel
theorem e_Law_law_1141 (a0 a1 a2 a3 : AV) (σ : aM) (x : Int) (r : List AV) (h : 0 ≤ x ∧ x < gI σ 34 0 (-1)) : ev 213 1141 [a0, a1, a2, a3] (aI x :: aR 34 0 :: r) σ = ev 213 1142 [a0, a1, a2, a3] (aI (gI σ 34 0 x) :: r) σ := ev_ldS f_Law_law_1141 rfl h
theorem f_Law_law_1142 : fetch 213 1142 = some (.invokevirtual 130) := by decide +kernel
theorem e_Law_law_1142 (a0 a1 a2 a3 : AV) (σ : aM) (s0 : Int) (s1 : Int) (s2 : Int) (s3 : Int) : ev 213 1142 [a0, a1, a2, a3] [aI s3, aI s2, aR 25 s1, aI s0] σ = evK 213 1145 [a0, a1, a2, a3] [aI s0] (ev 201 0 [aR 25 s1, aI s2, aI s3] [] σ) := ev_call f_Law_law_1142 rfl rfl
theorem f_Law_law_1145 : fetch 213 1145 = some (.if_icmp .eq 179) := by decide +kernel
theorem e_Law_law_1145 (a0 a1 a2 a3 : AV) (σ : aM) (x z : Int) (r : List AV) : ev 213 1145 [a0, a1, a2, a3] (aI z :: aI x :: r) σ = if x = z then ev 213 1324 [a0, a1, a2, a3] r σ else ev 213 1148 [a0, a1, a2, a3] r σ := ev_br f_Law_law_1145 rfl bc_eq
theorem f_Law_law_1148 : fetch 213 1148 = some (.iconst 0) := by decide +kernel
theorem e_Law_law_1148 (a0 a1 a2 a3 : AV) (σ : aM) (r : List AV)  : ev 213 1148 [a0, a1, a2, a3] (r) σ = ev 213 1149 [a0, a1, a2, a3] (aI 0 :: r) σ := ev_go f_Law_law_1148 rfl
theorem f_Law_law_1149 : fetch 213 1149 = some (.ireturn) := by decide +kernel
theorem e_Law_law_1149 (a0 a1 a2 a3 : AV) (σ : aM) (x : Int) (h : x = 0 ∨ x = 1) : ev 213 1149 [a0, a1, a2, a3] [aI x] σ = some ((some (aI x)), σ) := ev_rB f_Law_law_1149 rfl h
theorem f_Law_law_1150 : fetch 213 1150 = some (.aload_n 1) := by decide +kernel
theorem e_Law_law_1150 (a0 a2 a3 : AV) (σ : aM) (l1 : Option (Nat × Int)) (r : List AV)  : ev 213 1150 [a0, aQ l1, a2, a3] (r) σ = ev 213 1151 [a0, aQ l1, a2, a3] (aQ l1 :: r) σ := ev_go f_Law_law_1150 rfl
theorem f_Law_law_1151 : fetch 213 1151 = some (.aload_n 0) := by decide +kernel
theorem e_Law_law_1151 (a1 a2 a3 : AV) (σ : aM) (l0 : Option (Nat × Int)) (r : List AV)  : ev 213 1151 [aQ l0, a1, a2, a3] (r) σ = ev 213 1152 [aQ l0, a1, a2, a3] (aQ l0 :: r) σ := ev_go f_Law_law_1151 rfl
theorem f_Law_law_1152 : fetch 213 1152 = some (.iload_n 3) := by decide +kernel
theorem e_Law_law_1152 (a0 a1 a2 : AV) (σ : aM) (l3 : Int) (r : List AV)  : ev 213 1152 [a0, a1, a2, aI l3] (r) σ = ev 213 1153 [a0, a1, a2, aI l3] (aI l3 :: r) σ := ev_go f_Law_law_1152 rfl
theorem f_Law_law_1153 : fetch 213 1153 = some (.iconst 1) := by decide +kernel
theorem e_Law_law_1153 (a0 a1 a2 a3 : AV) (σ : aM) (r : List AV)  : ev 213 1153 [a0, a1, a2, a3] (r) σ = ev 213 1154 [a0, a1, a2, a3] (aI 1 :: r) σ := ev_go f_Law_law_1153 rfl
theorem f_Law_law_1154 : fetch 213 1154 = some (.iadd) := by decide +kernel
theorem e_Law_law_1154 (a0 a1 a2 a3 : AV) (σ : aM) (x z : Int) (r : List AV)  : ev 213 1154 [a0, a1, a2, a3] (aI z :: aI x :: r) σ = ev 213 1155 [a0, a1, a2, a3] (aI (wr (x + z)) :: r) σ := ev_go f_Law_law_1154 rfl
theorem f_Law_law_1155 : fetch 213 1155 = some (.iaload) := by decide +kernel
theorem e_Law_law_1155 (a0 a1 a2 a3 : AV) (σ : aM) (x : Int) (r : List AV) (h : 0 ≤ x ∧ x < gI σ 34 0 (-1)) : ev 213 1155 [a0, a1, a2, a3] (aI x :: aR 34 0 :: r) σ = ev 213 1156 [a0, a1, a2, a3] (aI (gI σ 34 0 x) :: r) σ := ev_ldS f_Law_law_1155 rfl h
theorem f_Law_law_1156 : fetch 213 1156 = some (.invokevirtual 131) := by decide +kernel
theorem e_Law_law_1156 (a0 a1 a2 a3 : AV) (σ : aM) (s0 : Int) (s1 : Int) : ev 213 1156 [a0, a1, a2, a3] [aI s1, aR 0 s0] σ = evK 213 1159 [a0, a1, a2, a3] [] (ev 105 0 [aR 0 s0, aI s1] [] σ) := ev_call f_Law_law_1156 rfl rfl
theorem f_Law_law_1159 : fetch 213 1159 = some (.aload_n 2) := by decide +kernel
theorem e_Law_law_1159 (a0 a1 a3 : AV) (σ : aM) (l2 : Option (Nat × Int)) (r : List AV)  : ev 213 1159 [a0, a1, aQ l2, a3] (r) σ = ev 213 1160 [a0, a1, aQ l2, a3] (aQ l2 :: r) σ := ev_go f_Law_law_1159 rfl
theorem f_Law_law_1160 : fetch 213 1160 = some (.aload_n 0) := by decide +kernel
theorem e_Law_law_1160 (a1 a2 a3 : AV) (σ : aM) (l0 : Option (Nat × Int)) (r : List AV)  : ev 213 1160 [aQ l0, a1, a2, a3] (r) σ = ev 213 1161 [aQ l0, a1, a2, a3] (aQ l0 :: r) σ := ev_go f_Law_law_1160 rfl
theorem f_Law_law_1161 : fetch 213 1161 = some (.iload_n 3) := by decide +kernel
theorem e_Law_law_1161 (a0 a1 a2 : AV) (σ : aM) (l3 : Int) (r : List AV)  : ev 213 1161 [a0, a1, a2, aI l3] (r) σ = ev 213 1162 [a0, a1, a2, aI l3] (aI l3 :: r) σ := ev_go f_Law_law_1161 rfl
theorem f_Law_law_1162 : fetch 213 1162 = some (.iconst 1) := by decide +kernel
theorem e_Law_law_1162 (a0 a1 a2 a3 : AV) (σ : aM) (r : List AV)  : ev 213 1162 [a0, a1, a2, a3] (r) σ = ev 213 1163 [a0, a1, a2, a3] (aI 1 :: r) σ := ev_go f_Law_law_1162 rfl
theorem f_Law_law_1163 : fetch 213 1163 = some (.iadd) := by decide +kernel
theorem e_Law_law_1163 (a0 a1 a2 a3 : AV) (σ : aM) (x z : Int) (r : List AV)  : ev 213 1163 [a0, a1, a2, a3] (aI z :: aI x :: r) σ = ev 213 1164 [a0, a1, a2, a3] (aI (wr (x + z)) :: r) σ := ev_go f_Law_law_1163 rfl
theorem f_Law_law_1164 : fetch 213 1164 = some (.iaload) := by decide +kernel
theorem e_Law_law_1164 (a0 a1 a2 a3 : AV) (σ : aM) (x : Int) (r : List AV) (h : 0 ≤ x ∧ x < gI σ 34 0 (-1)) : ev 213 1164 [a0, a1, a2, a3] (aI x :: aR 34 0 :: r) σ = ev 213 1165 [a0, a1, a2, a3] (aI (gI σ 34 0 x) :: r) σ := ev_ldS f_Law_law_1164 rfl h
theorem f_Law_law_1165 : fetch 213 1165 = some (.invokevirtual 134) := by decide +kernel
theorem e_Law_law_1165 (a0 a1 a2 a3 : AV) (σ : aM) (s0 : Int) (s1 : Int) (s2 : Int) : ev 213 1165 [a0, a1, a2, a3] [aI s2, aR 25 s1, aI s0] σ = evK 213 1168 [a0, a1, a2, a3] [aI s0] (ev 202 0 [aR 25 s1, aI s2] [] σ) := ev_call f_Law_law_1165 rfl rfl
theorem f_Law_law_1168 : fetch 213 1168 = some (.if_icmp .eq 156) := by decide +kernel
theorem e_Law_law_1168 (a0 a1 a2 a3 : AV) (σ : aM) (x z : Int) (r : List AV) : ev 213 1168 [a0, a1, a2, a3] (aI z :: aI x :: r) σ = if x = z then ev 213 1324 [a0, a1, a2, a3] r σ else ev 213 1171 [a0, a1, a2, a3] r σ := ev_br f_Law_law_1168 rfl bc_eq
theorem f_Law_law_1171 : fetch 213 1171 = some (.iconst 0) := by decide +kernel
theorem e_Law_law_1171 (a0 a1 a2 a3 : AV) (σ : aM) (r : List AV)  : ev 213 1171 [a0, a1, a2, a3] (r) σ = ev 213 1172 [a0, a1, a2, a3] (aI 0 :: r) σ := ev_go f_Law_law_1171 rfl
theorem f_Law_law_1172 : fetch 213 1172 = some (.ireturn) := by decide +kernel
theorem e_Law_law_1172 (a0 a1 a2 a3 : AV) (σ : aM) (x : Int) (h : x = 0 ∨ x = 1) : ev 213 1172 [a0, a1, a2, a3] [aI x] σ = some ((some (aI x)), σ) := ev_rB f_Law_law_1172 rfl h
theorem f_Law_law_1173 : fetch 213 1173 = some (.aload_n 1) := by decide +kernel
theorem e_Law_law_1173 (a0 a2 a3 : AV) (σ : aM) (l1 : Option (Nat × Int)) (r : List AV)  : ev 213 1173 [a0, aQ l1, a2, a3] (r) σ = ev 213 1174 [a0, aQ l1, a2, a3] (aQ l1 :: r) σ := ev_go f_Law_law_1173 rfl
theorem f_Law_law_1174 : fetch 213 1174 = some (.aload_n 0) := by decide +kernel
theorem e_Law_law_1174 (a1 a2 a3 : AV) (σ : aM) (l0 : Option (Nat × Int)) (r : List AV)  : ev 213 1174 [aQ l0, a1, a2, a3] (r) σ = ev 213 1175 [aQ l0, a1, a2, a3] (aQ l0 :: r) σ := ev_go f_Law_law_1174 rfl
theorem f_Law_law_1175 : fetch 213 1175 = some (.iload_n 3) := by decide +kernel
theorem e_Law_law_1175 (a0 a1 a2 : AV) (σ : aM) (l3 : Int) (r : List AV)  : ev 213 1175 [a0, a1, a2, aI l3] (r) σ = ev 213 1176 [a0, a1, a2, aI l3] (aI l3 :: r) σ := ev_go f_Law_law_1175 rfl
theorem f_Law_law_1176 : fetch 213 1176 = some (.iconst 1) := by decide +kernel
theorem e_Law_law_1176 (a0 a1 a2 a3 : AV) (σ : aM) (r : List AV)  : ev 213 1176 [a0, a1, a2, a3] (r) σ = ev 213 1177 [a0, a1, a2, a3] (aI 1 :: r) σ := ev_go f_Law_law_1176 rfl
theorem f_Law_law_1177 : fetch 213 1177 = some (.iadd) := by decide +kernel
theorem e_Law_law_1177 (a0 a1 a2 a3 : AV) (σ : aM) (x z : Int) (r : List AV)  : ev 213 1177 [a0, a1, a2, a3] (aI z :: aI x :: r) σ = ev 213 1178 [a0, a1, a2, a3] (aI (wr (x + z)) :: r) σ := ev_go f_Law_law_1177 rfl
theorem f_Law_law_1178 : fetch 213 1178 = some (.iaload) := by decide +kernel
theorem e_Law_law_1178 (a0 a1 a2 a3 : AV) (σ : aM) (x : Int) (r : List AV) (h : 0 ≤ x ∧ x < gI σ 34 0 (-1)) : ev 213 1178 [a0, a1, a2, a3] (aI x :: aR 34 0 :: r) σ = ev 213 1179 [a0, a1, a2, a3] (aI (gI σ 34 0 x) :: r) σ := ev_ldS f_Law_law_1178 rfl h
theorem f_Law_law_1179 : fetch 213 1179 = some (.invokevirtual 135) := by decide +kernel
theorem e_Law_law_1179 (a0 a1 a2 a3 : AV) (σ : aM) (s0 : Int) (s1 : Int) : ev 213 1179 [a0, a1, a2, a3] [aI s1, aR 0 s0] σ = evK 213 1182 [a0, a1, a2, a3] [] (ev 106 0 [aR 0 s0, aI s1] [] σ) := ev_call f_Law_law_1179 rfl rfl
theorem f_Law_law_1182 : fetch 213 1182 = some (.aload_n 2) := by decide +kernel
theorem e_Law_law_1182 (a0 a1 a3 : AV) (σ : aM) (l2 : Option (Nat × Int)) (r : List AV)  : ev 213 1182 [a0, a1, aQ l2, a3] (r) σ = ev 213 1183 [a0, a1, aQ l2, a3] (aQ l2 :: r) σ := ev_go f_Law_law_1182 rfl
theorem f_Law_law_1183 : fetch 213 1183 = some (.aload_n 0) := by decide +kernel
theorem e_Law_law_1183 (a1 a2 a3 : AV) (σ : aM) (l0 : Option (Nat × Int)) (r : List AV)  : ev 213 1183 [aQ l0, a1, a2, a3] (r) σ = ev 213 1184 [aQ l0, a1, a2, a3] (aQ l0 :: r) σ := ev_go f_Law_law_1183 rfl
theorem f_Law_law_1184 : fetch 213 1184 = some (.iload_n 3) := by decide +kernel
theorem e_Law_law_1184 (a0 a1 a2 : AV) (σ : aM) (l3 : Int) (r : List AV)  : ev 213 1184 [a0, a1, a2, aI l3] (r) σ = ev 213 1185 [a0, a1, a2, aI l3] (aI l3 :: r) σ := ev_go f_Law_law_1184 rfl
theorem f_Law_law_1185 : fetch 213 1185 = some (.iconst 1) := by decide +kernel
theorem e_Law_law_1185 (a0 a1 a2 a3 : AV) (σ : aM) (r : List AV)  : ev 213 1185 [a0, a1, a2, a3] (r) σ = ev 213 1186 [a0, a1, a2, a3] (aI 1 :: r) σ := ev_go f_Law_law_1185 rfl
theorem f_Law_law_1186 : fetch 213 1186 = some (.iadd) := by decide +kernel
theorem e_Law_law_1186 (a0 a1 a2 a3 : AV) (σ : aM) (x z : Int) (r : List AV)  : ev 213 1186 [a0, a1, a2, a3] (aI z :: aI x :: r) σ = ev 213 1187 [a0, a1, a2, a3] (aI (wr (x + z)) :: r) σ := ev_go f_Law_law_1186 rfl
theorem f_Law_law_1187 : fetch 213 1187 = some (.iaload) := by decide +kernel
theorem e_Law_law_1187 (a0 a1 a2 a3 : AV) (σ : aM) (x : Int) (r : List AV) (h : 0 ≤ x ∧ x < gI σ 34 0 (-1)) : ev 213 1187 [a0, a1, a2, a3] (aI x :: aR 34 0 :: r) σ = ev 213 1188 [a0, a1, a2, a3] (aI (gI σ 34 0 x) :: r) σ := ev_ldS f_Law_law_1187 rfl h
theorem f_Law_law_1188 : fetch 213 1188 = some (.invokevirtual 138) := by decide +kernel
theorem e_Law_law_1188 (a0 a1 a2 a3 : AV) (σ : aM) (s0 : Int) (s1 : Int) (s2 : Int) : ev 213 1188 [a0, a1, a2, a3] [aI s2, aR 25 s1, aI s0] σ = evK 213 1191 [a0, a1, a2, a3] [aI s0] (ev 203 0 [aR 25 s1, aI s2] [] σ) := ev_call f_Law_law_1188 rfl rfl
theorem f_Law_law_1191 : fetch 213 1191 = some (.if_icmp .eq 133) := by decide +kernel
theorem e_Law_law_1191 (a0 a1 a2 a3 : AV) (σ : aM) (x z : Int) (r : List AV) : ev 213 1191 [a0, a1, a2, a3] (aI z :: aI x :: r) σ = if x = z then ev 213 1324 [a0, a1, a2, a3] r σ else ev 213 1194 [a0, a1, a2, a3] r σ := ev_br f_Law_law_1191 rfl bc_eq
theorem f_Law_law_1194 : fetch 213 1194 = some (.iconst 0) := by decide +kernel
theorem e_Law_law_1194 (a0 a1 a2 a3 : AV) (σ : aM) (r : List AV)  : ev 213 1194 [a0, a1, a2, a3] (r) σ = ev 213 1195 [a0, a1, a2, a3] (aI 0 :: r) σ := ev_go f_Law_law_1194 rfl
theorem f_Law_law_1195 : fetch 213 1195 = some (.ireturn) := by decide +kernel
theorem e_Law_law_1195 (a0 a1 a2 a3 : AV) (σ : aM) (x : Int) (h : x = 0 ∨ x = 1) : ev 213 1195 [a0, a1, a2, a3] [aI x] σ = some ((some (aI x)), σ) := ev_rB f_Law_law_1195 rfl h
theorem f_Law_law_1196 : fetch 213 1196 = some (.aload_n 1) := by decide +kernel
theorem e_Law_law_1196 (a0 a2 a3 : AV) (σ : aM) (l1 : Option (Nat × Int)) (r : List AV)  : ev 213 1196 [a0, aQ l1, a2, a3] (r) σ = ev 213 1197 [a0, aQ l1, a2, a3] (aQ l1 :: r) σ := ev_go f_Law_law_1196 rfl
theorem f_Law_law_1197 : fetch 213 1197 = some (.aload_n 0) := by decide +kernel
theorem e_Law_law_1197 (a1 a2 a3 : AV) (σ : aM) (l0 : Option (Nat × Int)) (r : List AV)  : ev 213 1197 [aQ l0, a1, a2, a3] (r) σ = ev 213 1198 [aQ l0, a1, a2, a3] (aQ l0 :: r) σ := ev_go f_Law_law_1197 rfl
theorem f_Law_law_1198 : fetch 213 1198 = some (.iload_n 3) := by decide +kernel
theorem e_Law_law_1198 (a0 a1 a2 : AV) (σ : aM) (l3 : Int) (r : List AV)  : ev 213 1198 [a0, a1, a2, aI l3] (r) σ = ev 213 1199 [a0, a1, a2, aI l3] (aI l3 :: r) σ := ev_go f_Law_law_1198 rfl
theorem f_Law_law_1199 : fetch 213 1199 = some (.iconst 1) := by decide +kernel
theorem e_Law_law_1199 (a0 a1 a2 a3 : AV) (σ : aM) (r : List AV)  : ev 213 1199 [a0, a1, a2, a3] (r) σ = ev 213 1200 [a0, a1, a2, a3] (aI 1 :: r) σ := ev_go f_Law_law_1199 rfl
theorem f_Law_law_1200 : fetch 213 1200 = some (.iadd) := by decide +kernel
theorem e_Law_law_1200 (a0 a1 a2 a3 : AV) (σ : aM) (x z : Int) (r : List AV)  : ev 213 1200 [a0, a1, a2, a3] (aI z :: aI x :: r) σ = ev 213 1201 [a0, a1, a2, a3] (aI (wr (x + z)) :: r) σ := ev_go f_Law_law_1200 rfl
theorem f_Law_law_1201 : fetch 213 1201 = some (.iaload) := by decide +kernel
theorem e_Law_law_1201 (a0 a1 a2 a3 : AV) (σ : aM) (x : Int) (r : List AV) (h : 0 ≤ x ∧ x < gI σ 34 0 (-1)) : ev 213 1201 [a0, a1, a2, a3] (aI x :: aR 34 0 :: r) σ = ev 213 1202 [a0, a1, a2, a3] (aI (gI σ 34 0 x) :: r) σ := ev_ldS f_Law_law_1201 rfl h
theorem f_Law_law_1202 : fetch 213 1202 = some (.aload_n 0) := by decide +kernel
theorem e_Law_law_1202 (a1 a2 a3 : AV) (σ : aM) (l0 : Option (Nat × Int)) (r : List AV)  : ev 213 1202 [aQ l0, a1, a2, a3] (r) σ = ev 213 1203 [aQ l0, a1, a2, a3] (aQ l0 :: r) σ := ev_go f_Law_law_1202 rfl
theorem f_Law_law_1203 : fetch 213 1203 = some (.iload_n 3) := by decide +kernel
theorem e_Law_law_1203 (a0 a1 a2 : AV) (σ : aM) (l3 : Int) (r : List AV)  : ev 213 1203 [a0, a1, a2, aI l3] (r) σ = ev 213 1204 [a0, a1, a2, aI l3] (aI l3 :: r) σ := ev_go f_Law_law_1203 rfl
theorem f_Law_law_1204 : fetch 213 1204 = some (.iconst 2) := by decide +kernel
theorem e_Law_law_1204 (a0 a1 a2 a3 : AV) (σ : aM) (r : List AV)  : ev 213 1204 [a0, a1, a2, a3] (r) σ = ev 213 1205 [a0, a1, a2, a3] (aI 2 :: r) σ := ev_go f_Law_law_1204 rfl
theorem f_Law_law_1205 : fetch 213 1205 = some (.iadd) := by decide +kernel
theorem e_Law_law_1205 (a0 a1 a2 a3 : AV) (σ : aM) (x z : Int) (r : List AV)  : ev 213 1205 [a0, a1, a2, a3] (aI z :: aI x :: r) σ = ev 213 1206 [a0, a1, a2, a3] (aI (wr (x + z)) :: r) σ := ev_go f_Law_law_1205 rfl
theorem f_Law_law_1206 : fetch 213 1206 = some (.iaload) := by decide +kernel
theorem e_Law_law_1206 (a0 a1 a2 a3 : AV) (σ : aM) (x : Int) (r : List AV) (h : 0 ≤ x ∧ x < gI σ 34 0 (-1)) : ev 213 1206 [a0, a1, a2, a3] (aI x :: aR 34 0 :: r) σ = ev 213 1207 [a0, a1, a2, a3] (aI (gI σ 34 0 x) :: r) σ := ev_ldS f_Law_law_1206 rfl h
theorem f_Law_law_1207 : fetch 213 1207 = some (.invokevirtual 139) := by decide +kernel
theorem e_Law_law_1207 (a0 a1 a2 a3 : AV) (σ : aM) (s0 : Int) (s1 : Int) (s2 : Int) : ev 213 1207 [a0, a1, a2, a3] [aI s2, aI s1, aR 0 s0] σ = evK 213 1210 [a0, a1, a2, a3] [] (ev 107 0 [aR 0 s0, aI s1, aI s2, aU, aU] [] σ) := ev_call f_Law_law_1207 rfl rfl
theorem f_Law_law_1210 : fetch 213 1210 = some (.aload_n 2) := by decide +kernel
theorem e_Law_law_1210 (a0 a1 a3 : AV) (σ : aM) (l2 : Option (Nat × Int)) (r : List AV)  : ev 213 1210 [a0, a1, aQ l2, a3] (r) σ = ev 213 1211 [a0, a1, aQ l2, a3] (aQ l2 :: r) σ := ev_go f_Law_law_1210 rfl
theorem f_Law_law_1211 : fetch 213 1211 = some (.aload_n 0) := by decide +kernel
theorem e_Law_law_1211 (a1 a2 a3 : AV) (σ : aM) (l0 : Option (Nat × Int)) (r : List AV)  : ev 213 1211 [aQ l0, a1, a2, a3] (r) σ = ev 213 1212 [aQ l0, a1, a2, a3] (aQ l0 :: r) σ := ev_go f_Law_law_1211 rfl
theorem f_Law_law_1212 : fetch 213 1212 = some (.iload_n 3) := by decide +kernel
theorem e_Law_law_1212 (a0 a1 a2 : AV) (σ : aM) (l3 : Int) (r : List AV)  : ev 213 1212 [a0, a1, a2, aI l3] (r) σ = ev 213 1213 [a0, a1, a2, aI l3] (aI l3 :: r) σ := ev_go f_Law_law_1212 rfl
theorem f_Law_law_1213 : fetch 213 1213 = some (.iconst 1) := by decide +kernel
theorem e_Law_law_1213 (a0 a1 a2 a3 : AV) (σ : aM) (r : List AV)  : ev 213 1213 [a0, a1, a2, a3] (r) σ = ev 213 1214 [a0, a1, a2, a3] (aI 1 :: r) σ := ev_go f_Law_law_1213 rfl
theorem f_Law_law_1214 : fetch 213 1214 = some (.iadd) := by decide +kernel
theorem e_Law_law_1214 (a0 a1 a2 a3 : AV) (σ : aM) (x z : Int) (r : List AV)  : ev 213 1214 [a0, a1, a2, a3] (aI z :: aI x :: r) σ = ev 213 1215 [a0, a1, a2, a3] (aI (wr (x + z)) :: r) σ := ev_go f_Law_law_1214 rfl
theorem f_Law_law_1215 : fetch 213 1215 = some (.iaload) := by decide +kernel
theorem e_Law_law_1215 (a0 a1 a2 a3 : AV) (σ : aM) (x : Int) (r : List AV) (h : 0 ≤ x ∧ x < gI σ 34 0 (-1)) : ev 213 1215 [a0, a1, a2, a3] (aI x :: aR 34 0 :: r) σ = ev 213 1216 [a0, a1, a2, a3] (aI (gI σ 34 0 x) :: r) σ := ev_ldS f_Law_law_1215 rfl h
theorem f_Law_law_1216 : fetch 213 1216 = some (.aload_n 0) := by decide +kernel
theorem e_Law_law_1216 (a1 a2 a3 : AV) (σ : aM) (l0 : Option (Nat × Int)) (r : List AV)  : ev 213 1216 [aQ l0, a1, a2, a3] (r) σ = ev 213 1217 [aQ l0, a1, a2, a3] (aQ l0 :: r) σ := ev_go f_Law_law_1216 rfl
theorem f_Law_law_1217 : fetch 213 1217 = some (.iload_n 3) := by decide +kernel
theorem e_Law_law_1217 (a0 a1 a2 : AV) (σ : aM) (l3 : Int) (r : List AV)  : ev 213 1217 [a0, a1, a2, aI l3] (r) σ = ev 213 1218 [a0, a1, a2, aI l3] (aI l3 :: r) σ := ev_go f_Law_law_1217 rfl
theorem f_Law_law_1218 : fetch 213 1218 = some (.iconst 2) := by decide +kernel
theorem e_Law_law_1218 (a0 a1 a2 a3 : AV) (σ : aM) (r : List AV)  : ev 213 1218 [a0, a1, a2, a3] (r) σ = ev 213 1219 [a0, a1, a2, a3] (aI 2 :: r) σ := ev_go f_Law_law_1218 rfl
theorem f_Law_law_1219 : fetch 213 1219 = some (.iadd) := by decide +kernel
theorem e_Law_law_1219 (a0 a1 a2 a3 : AV) (σ : aM) (x z : Int) (r : List AV)  : ev 213 1219 [a0, a1, a2, a3] (aI z :: aI x :: r) σ = ev 213 1220 [a0, a1, a2, a3] (aI (wr (x + z)) :: r) σ := ev_go f_Law_law_1219 rfl
theorem f_Law_law_1220 : fetch 213 1220 = some (.iaload) := by decide +kernel
theorem e_Law_law_1220 (a0 a1 a2 a3 : AV) (σ : aM) (x : Int) (r : List AV) (h : 0 ≤ x ∧ x < gI σ 34 0 (-1)) : ev 213 1220 [a0, a1, a2, a3] (aI x :: aR 34 0 :: r) σ = ev 213 1221 [a0, a1, a2, a3] (aI (gI σ 34 0 x) :: r) σ := ev_ldS f_Law_law_1220 rfl h
theorem f_Law_law_1221 : fetch 213 1221 = some (.invokevirtual 142) := by decide +kernel
theorem e_Law_law_1221 (a0 a1 a2 a3 : AV) (σ : aM) (s0 : Int) (s1 : Int) (s2 : Int) (s3 : Int) : ev 213 1221 [a0, a1, a2, a3] [aI s3, aI s2, aR 25 s1, aI s0] σ = evK 213 1224 [a0, a1, a2, a3] [aI s0] (ev 204 0 [aR 25 s1, aI s2, aI s3, aU, aU, aU, aU] [] σ) := ev_call f_Law_law_1221 rfl rfl
theorem f_Law_law_1224 : fetch 213 1224 = some (.if_icmp .eq 100) := by decide +kernel
theorem e_Law_law_1224 (a0 a1 a2 a3 : AV) (σ : aM) (x z : Int) (r : List AV) : ev 213 1224 [a0, a1, a2, a3] (aI z :: aI x :: r) σ = if x = z then ev 213 1324 [a0, a1, a2, a3] r σ else ev 213 1227 [a0, a1, a2, a3] r σ := ev_br f_Law_law_1224 rfl bc_eq
theorem f_Law_law_1227 : fetch 213 1227 = some (.iconst 0) := by decide +kernel
theorem e_Law_law_1227 (a0 a1 a2 a3 : AV) (σ : aM) (r : List AV)  : ev 213 1227 [a0, a1, a2, a3] (r) σ = ev 213 1228 [a0, a1, a2, a3] (aI 0 :: r) σ := ev_go f_Law_law_1227 rfl
theorem f_Law_law_1228 : fetch 213 1228 = some (.ireturn) := by decide +kernel
theorem e_Law_law_1228 (a0 a1 a2 a3 : AV) (σ : aM) (x : Int) (h : x = 0 ∨ x = 1) : ev 213 1228 [a0, a1, a2, a3] [aI x] σ = some ((some (aI x)), σ) := ev_rB f_Law_law_1228 rfl h
theorem f_Law_law_1229 : fetch 213 1229 = some (.aload_n 1) := by decide +kernel
theorem e_Law_law_1229 (a0 a2 a3 : AV) (σ : aM) (l1 : Option (Nat × Int)) (r : List AV)  : ev 213 1229 [a0, aQ l1, a2, a3] (r) σ = ev 213 1230 [a0, aQ l1, a2, a3] (aQ l1 :: r) σ := ev_go f_Law_law_1229 rfl
theorem f_Law_law_1230 : fetch 213 1230 = some (.aload_n 0) := by decide +kernel
theorem e_Law_law_1230 (a1 a2 a3 : AV) (σ : aM) (l0 : Option (Nat × Int)) (r : List AV)  : ev 213 1230 [aQ l0, a1, a2, a3] (r) σ = ev 213 1231 [aQ l0, a1, a2, a3] (aQ l0 :: r) σ := ev_go f_Law_law_1230 rfl
theorem f_Law_law_1231 : fetch 213 1231 = some (.iload_n 3) := by decide +kernel
theorem e_Law_law_1231 (a0 a1 a2 : AV) (σ : aM) (l3 : Int) (r : List AV)  : ev 213 1231 [a0, a1, a2, aI l3] (r) σ = ev 213 1232 [a0, a1, a2, aI l3] (aI l3 :: r) σ := ev_go f_Law_law_1231 rfl
theorem f_Law_law_1232 : fetch 213 1232 = some (.iconst 1) := by decide +kernel
theorem e_Law_law_1232 (a0 a1 a2 a3 : AV) (σ : aM) (r : List AV)  : ev 213 1232 [a0, a1, a2, a3] (r) σ = ev 213 1233 [a0, a1, a2, a3] (aI 1 :: r) σ := ev_go f_Law_law_1232 rfl
theorem f_Law_law_1233 : fetch 213 1233 = some (.iadd) := by decide +kernel
theorem e_Law_law_1233 (a0 a1 a2 a3 : AV) (σ : aM) (x z : Int) (r : List AV)  : ev 213 1233 [a0, a1, a2, a3] (aI z :: aI x :: r) σ = ev 213 1234 [a0, a1, a2, a3] (aI (wr (x + z)) :: r) σ := ev_go f_Law_law_1233 rfl
theorem f_Law_law_1234 : fetch 213 1234 = some (.iaload) := by decide +kernel
theorem e_Law_law_1234 (a0 a1 a2 a3 : AV) (σ : aM) (x : Int) (r : List AV) (h : 0 ≤ x ∧ x < gI σ 34 0 (-1)) : ev 213 1234 [a0, a1, a2, a3] (aI x :: aR 34 0 :: r) σ = ev 213 1235 [a0, a1, a2, a3] (aI (gI σ 34 0 x) :: r) σ := ev_ldS f_Law_law_1234 rfl h
theorem f_Law_law_1235 : fetch 213 1235 = some (.invokevirtual 143) := by decide +kernel
theorem e_Law_law_1235 (a0 a1 a2 a3 : AV) (σ : aM) (s0 : Int) (s1 : Int) : ev 213 1235 [a0, a1, a2, a3] [aI s1, aR 0 s0] σ = evK 213 1238 [a0, a1, a2, a3] [] (ev 108 0 [aR 0 s0, aI s1, aU, aU, aU, aU, aU, aU] [] σ) := ev_call f_Law_law_1235 rfl rfl
theorem f_Law_law_1238 : fetch 213 1238 = some (.aload_n 2) := by decide +kernel
theorem e_Law_law_1238 (a0 a1 a3 : AV) (σ : aM) (l2 : Option (Nat × Int)) (r : List AV)  : ev 213 1238 [a0, a1, aQ l2, a3] (r) σ = ev 213 1239 [a0, a1, aQ l2, a3] (aQ l2 :: r) σ := ev_go f_Law_law_1238 rfl
theorem f_Law_law_1239 : fetch 213 1239 = some (.aload_n 0) := by decide +kernel
theorem e_Law_law_1239 (a1 a2 a3 : AV) (σ : aM) (l0 : Option (Nat × Int)) (r : List AV)  : ev 213 1239 [aQ l0, a1, a2, a3] (r) σ = ev 213 1240 [aQ l0, a1, a2, a3] (aQ l0 :: r) σ := ev_go f_Law_law_1239 rfl
theorem f_Law_law_1240 : fetch 213 1240 = some (.iload_n 3) := by decide +kernel
theorem e_Law_law_1240 (a0 a1 a2 : AV) (σ : aM) (l3 : Int) (r : List AV)  : ev 213 1240 [a0, a1, a2, aI l3] (r) σ = ev 213 1241 [a0, a1, a2, aI l3] (aI l3 :: r) σ := ev_go f_Law_law_1240 rfl
theorem f_Law_law_1241 : fetch 213 1241 = some (.iconst 1) := by decide +kernel
theorem e_Law_law_1241 (a0 a1 a2 a3 : AV) (σ : aM) (r : List AV)  : ev 213 1241 [a0, a1, a2, a3] (r) σ = ev 213 1242 [a0, a1, a2, a3] (aI 1 :: r) σ := ev_go f_Law_law_1241 rfl
theorem f_Law_law_1242 : fetch 213 1242 = some (.iadd) := by decide +kernel
theorem e_Law_law_1242 (a0 a1 a2 a3 : AV) (σ : aM) (x z : Int) (r : List AV)  : ev 213 1242 [a0, a1, a2, a3] (aI z :: aI x :: r) σ = ev 213 1243 [a0, a1, a2, a3] (aI (wr (x + z)) :: r) σ := ev_go f_Law_law_1242 rfl
theorem f_Law_law_1243 : fetch 213 1243 = some (.iaload) := by decide +kernel
theorem e_Law_law_1243 (a0 a1 a2 a3 : AV) (σ : aM) (x : Int) (r : List AV) (h : 0 ≤ x ∧ x < gI σ 34 0 (-1)) : ev 213 1243 [a0, a1, a2, a3] (aI x :: aR 34 0 :: r) σ = ev 213 1244 [a0, a1, a2, a3] (aI (gI σ 34 0 x) :: r) σ := ev_ldS f_Law_law_1243 rfl h
theorem f_Law_law_1244 : fetch 213 1244 = some (.invokevirtual 146) := by decide +kernel
theorem e_Law_law_1244 (a0 a1 a2 a3 : AV) (σ : aM) (s0 : Int) (s1 : Int) (s2 : Int) : ev 213 1244 [a0, a1, a2, a3] [aI s2, aR 25 s1, aI s0] σ = evK 213 1247 [a0, a1, a2, a3] [aI s0] (ev 206 0 [aR 25 s1, aI s2, aU, aU, aU, aU, aU, aU] [] σ) := ev_call f_Law_law_1244 rfl rfl
theorem f_Law_law_1247 : fetch 213 1247 = some (.if_icmp .eq 77) := by decide +kernel
theorem e_Law_law_1247 (a0 a1 a2 a3 : AV) (σ : aM) (x z : Int) (r : List AV) : ev 213 1247 [a0, a1, a2, a3] (aI z :: aI x :: r) σ = if x = z then ev 213 1324 [a0, a1, a2, a3] r σ else ev 213 1250 [a0, a1, a2, a3] r σ := ev_br f_Law_law_1247 rfl bc_eq
theorem f_Law_law_1250 : fetch 213 1250 = some (.iconst 0) := by decide +kernel
theorem e_Law_law_1250 (a0 a1 a2 a3 : AV) (σ : aM) (r : List AV)  : ev 213 1250 [a0, a1, a2, a3] (r) σ = ev 213 1251 [a0, a1, a2, a3] (aI 0 :: r) σ := ev_go f_Law_law_1250 rfl
theorem f_Law_law_1251 : fetch 213 1251 = some (.ireturn) := by decide +kernel
theorem e_Law_law_1251 (a0 a1 a2 a3 : AV) (σ : aM) (x : Int) (h : x = 0 ∨ x = 1) : ev 213 1251 [a0, a1, a2, a3] [aI x] σ = some ((some (aI x)), σ) := ev_rB f_Law_law_1251 rfl h
theorem f_Law_law_1252 : fetch 213 1252 = some (.aload_n 1) := by decide +kernel
theorem e_Law_law_1252 (a0 a2 a3 : AV) (σ : aM) (l1 : Option (Nat × Int)) (r : List AV)  : ev 213 1252 [a0, aQ l1, a2, a3] (r) σ = ev 213 1253 [a0, aQ l1, a2, a3] (aQ l1 :: r) σ := ev_go f_Law_law_1252 rfl
theorem f_Law_law_1253 : fetch 213 1253 = some (.aload_n 0) := by decide +kernel
theorem e_Law_law_1253 (a1 a2 a3 : AV) (σ : aM) (l0 : Option (Nat × Int)) (r : List AV)  : ev 213 1253 [aQ l0, a1, a2, a3] (r) σ = ev 213 1254 [aQ l0, a1, a2, a3] (aQ l0 :: r) σ := ev_go f_Law_law_1253 rfl
theorem f_Law_law_1254 : fetch 213 1254 = some (.iload_n 3) := by decide +kernel
theorem e_Law_law_1254 (a0 a1 a2 : AV) (σ : aM) (l3 : Int) (r : List AV)  : ev 213 1254 [a0, a1, a2, aI l3] (r) σ = ev 213 1255 [a0, a1, a2, aI l3] (aI l3 :: r) σ := ev_go f_Law_law_1254 rfl
theorem f_Law_law_1255 : fetch 213 1255 = some (.iconst 1) := by decide +kernel
theorem e_Law_law_1255 (a0 a1 a2 a3 : AV) (σ : aM) (r : List AV)  : ev 213 1255 [a0, a1, a2, a3] (r) σ = ev 213 1256 [a0, a1, a2, a3] (aI 1 :: r) σ := ev_go f_Law_law_1255 rfl
theorem f_Law_law_1256 : fetch 213 1256 = some (.iadd) := by decide +kernel
theorem e_Law_law_1256 (a0 a1 a2 a3 : AV) (σ : aM) (x z : Int) (r : List AV)  : ev 213 1256 [a0, a1, a2, a3] (aI z :: aI x :: r) σ = ev 213 1257 [a0, a1, a2, a3] (aI (wr (x + z)) :: r) σ := ev_go f_Law_law_1256 rfl
theorem f_Law_law_1257 : fetch 213 1257 = some (.iaload) := by decide +kernel
theorem e_Law_law_1257 (a0 a1 a2 a3 : AV) (σ : aM) (x : Int) (r : List AV) (h : 0 ≤ x ∧ x < gI σ 34 0 (-1)) : ev 213 1257 [a0, a1, a2, a3] (aI x :: aR 34 0 :: r) σ = ev 213 1258 [a0, a1, a2, a3] (aI (gI σ 34 0 x) :: r) σ := ev_ldS f_Law_law_1257 rfl h
theorem f_Law_law_1258 : fetch 213 1258 = some (.invokevirtual 147) := by decide +kernel
theorem e_Law_law_1258 (a0 a1 a2 a3 : AV) (σ : aM) (s0 : Int) (s1 : Int) : ev 213 1258 [a0, a1, a2, a3] [aI s1, aR 0 s0] σ = evK 213 1261 [a0, a1, a2, a3] [] (ev 109 0 [aR 0 s0, aI s1, aU] [] σ) := ev_call f_Law_law_1258 rfl rfl
theorem f_Law_law_1261 : fetch 213 1261 = some (.aload_n 2) := by decide +kernel
theorem e_Law_law_1261 (a0 a1 a3 : AV) (σ : aM) (l2 : Option (Nat × Int)) (r : List AV)  : ev 213 1261 [a0, a1, aQ l2, a3] (r) σ = ev 213 1262 [a0, a1, aQ l2, a3] (aQ l2 :: r) σ := ev_go f_Law_law_1261 rfl
theorem f_Law_law_1262 : fetch 213 1262 = some (.aload_n 0) := by decide +kernel
theorem e_Law_law_1262 (a1 a2 a3 : AV) (σ : aM) (l0 : Option (Nat × Int)) (r : List AV)  : ev 213 1262 [aQ l0, a1, a2, a3] (r) σ = ev 213 1263 [aQ l0, a1, a2, a3] (aQ l0 :: r) σ := ev_go f_Law_law_1262 rfl
theorem f_Law_law_1263 : fetch 213 1263 = some (.iload_n 3) := by decide +kernel
theorem e_Law_law_1263 (a0 a1 a2 : AV) (σ : aM) (l3 : Int) (r : List AV)  : ev 213 1263 [a0, a1, a2, aI l3] (r) σ = ev 213 1264 [a0, a1, a2, aI l3] (aI l3 :: r) σ := ev_go f_Law_law_1263 rfl
theorem f_Law_law_1264 : fetch 213 1264 = some (.iconst 1) := by decide +kernel
theorem e_Law_law_1264 (a0 a1 a2 a3 : AV) (σ : aM) (r : List AV)  : ev 213 1264 [a0, a1, a2, a3] (r) σ = ev 213 1265 [a0, a1, a2, a3] (aI 1 :: r) σ := ev_go f_Law_law_1264 rfl
theorem f_Law_law_1265 : fetch 213 1265 = some (.iadd) := by decide +kernel
theorem e_Law_law_1265 (a0 a1 a2 a3 : AV) (σ : aM) (x z : Int) (r : List AV)  : ev 213 1265 [a0, a1, a2, a3] (aI z :: aI x :: r) σ = ev 213 1266 [a0, a1, a2, a3] (aI (wr (x + z)) :: r) σ := ev_go f_Law_law_1265 rfl
theorem f_Law_law_1266 : fetch 213 1266 = some (.iaload) := by decide +kernel
theorem e_Law_law_1266 (a0 a1 a2 a3 : AV) (σ : aM) (x : Int) (r : List AV) (h : 0 ≤ x ∧ x < gI σ 34 0 (-1)) : ev 213 1266 [a0, a1, a2, a3] (aI x :: aR 34 0 :: r) σ = ev 213 1267 [a0, a1, a2, a3] (aI (gI σ 34 0 x) :: r) σ := ev_ldS f_Law_law_1266 rfl h
theorem f_Law_law_1267 : fetch 213 1267 = some (.invokevirtual 150) := by decide +kernel
theorem e_Law_law_1267 (a0 a1 a2 a3 : AV) (σ : aM) (s0 : Int) (s1 : Int) (s2 : Int) : ev 213 1267 [a0, a1, a2, a3] [aI s2, aR 25 s1, aI s0] σ = evK 213 1270 [a0, a1, a2, a3] [aI s0] (ev 207 0 [aR 25 s1, aI s2, aU] [] σ) := ev_call f_Law_law_1267 rfl rfl
theorem f_Law_law_1270 : fetch 213 1270 = some (.if_icmp .eq 54) := by decide +kernel
theorem e_Law_law_1270 (a0 a1 a2 a3 : AV) (σ : aM) (x z : Int) (r : List AV) : ev 213 1270 [a0, a1, a2, a3] (aI z :: aI x :: r) σ = if x = z then ev 213 1324 [a0, a1, a2, a3] r σ else ev 213 1273 [a0, a1, a2, a3] r σ := ev_br f_Law_law_1270 rfl bc_eq
theorem f_Law_law_1273 : fetch 213 1273 = some (.iconst 0) := by decide +kernel
theorem e_Law_law_1273 (a0 a1 a2 a3 : AV) (σ : aM) (r : List AV)  : ev 213 1273 [a0, a1, a2, a3] (r) σ = ev 213 1274 [a0, a1, a2, a3] (aI 0 :: r) σ := ev_go f_Law_law_1273 rfl
theorem f_Law_law_1274 : fetch 213 1274 = some (.ireturn) := by decide +kernel
theorem e_Law_law_1274 (a0 a1 a2 a3 : AV) (σ : aM) (x : Int) (h : x = 0 ∨ x = 1) : ev 213 1274 [a0, a1, a2, a3] [aI x] σ = some ((some (aI x)), σ) := ev_rB f_Law_law_1274 rfl h
theorem f_Law_law_1275 : fetch 213 1275 = some (.aload_n 1) := by decide +kernel
theorem e_Law_law_1275 (a0 a2 a3 : AV) (σ : aM) (l1 : Option (Nat × Int)) (r : List AV)  : ev 213 1275 [a0, aQ l1, a2, a3] (r) σ = ev 213 1276 [a0, aQ l1, a2, a3] (aQ l1 :: r) σ := ev_go f_Law_law_1275 rfl
theorem f_Law_law_1276 : fetch 213 1276 = some (.invokevirtual 151) := by decide +kernel
theorem e_Law_law_1276 (a0 a1 a2 a3 : AV) (σ : aM) (s0 : Int) : ev 213 1276 [a0, a1, a2, a3] [aR 0 s0] σ = evK 213 1279 [a0, a1, a2, a3] [] (ev 110 0 [aR 0 s0] [] σ) := ev_call f_Law_law_1276 rfl rfl
theorem f_Law_law_1279 : fetch 213 1279 = some (.aload_n 2) := by decide +kernel
theorem e_Law_law_1279 (a0 a1 a3 : AV) (σ : aM) (l2 : Option (Nat × Int)) (r : List AV)  : ev 213 1279 [a0, a1, aQ l2, a3] (r) σ = ev 213 1280 [a0, a1, aQ l2, a3] (aQ l2 :: r) σ := ev_go f_Law_law_1279 rfl
theorem f_Law_law_1280 : fetch 213 1280 = some (.invokevirtual 154) := by decide +kernel
theorem e_Law_law_1280 (a0 a1 a2 a3 : AV) (σ : aM) (s0 : Int) (s1 : Int) : ev 213 1280 [a0, a1, a2, a3] [aR 25 s1, aI s0] σ = evK 213 1283 [a0, a1, a2, a3] [aI s0] (ev 208 0 [aR 25 s1, aU] [] σ) := ev_call f_Law_law_1280 rfl rfl
theorem f_Law_law_1283 : fetch 213 1283 = some (.if_icmp .eq 41) := by decide +kernel
theorem e_Law_law_1283 (a0 a1 a2 a3 : AV) (σ : aM) (x z : Int) (r : List AV) : ev 213 1283 [a0, a1, a2, a3] (aI z :: aI x :: r) σ = if x = z then ev 213 1324 [a0, a1, a2, a3] r σ else ev 213 1286 [a0, a1, a2, a3] r σ := ev_br f_Law_law_1283 rfl bc_eq
theorem f_Law_law_1286 : fetch 213 1286 = some (.iconst 0) := by decide +kernel
theorem e_Law_law_1286 (a0 a1 a2 a3 : AV) (σ : aM) (r : List AV)  : ev 213 1286 [a0, a1, a2, a3] (r) σ = ev 213 1287 [a0, a1, a2, a3] (aI 0 :: r) σ := ev_go f_Law_law_1286 rfl
theorem f_Law_law_1287 : fetch 213 1287 = some (.ireturn) := by decide +kernel
theorem e_Law_law_1287 (a0 a1 a2 a3 : AV) (σ : aM) (x : Int) (h : x = 0 ∨ x = 1) : ev 213 1287 [a0, a1, a2, a3] [aI x] σ = some ((some (aI x)), σ) := ev_rB f_Law_law_1287 rfl h
theorem f_Law_law_1288 : fetch 213 1288 = some (.aload_n 1) := by decide +kernel
theorem e_Law_law_1288 (a0 a2 a3 : AV) (σ : aM) (l1 : Option (Nat × Int)) (r : List AV)  : ev 213 1288 [a0, aQ l1, a2, a3] (r) σ = ev 213 1289 [a0, aQ l1, a2, a3] (aQ l1 :: r) σ := ev_go f_Law_law_1288 rfl
theorem f_Law_law_1289 : fetch 213 1289 = some (.invokevirtual 155) := by decide +kernel
theorem e_Law_law_1289 (a0 a1 a2 a3 : AV) (σ : aM) (s0 : Int) : ev 213 1289 [a0, a1, a2, a3] [aR 0 s0] σ = evK 213 1292 [a0, a1, a2, a3] [] (ev 111 0 [aR 0 s0, aU] [] σ) := ev_call f_Law_law_1289 rfl rfl
theorem f_Law_law_1292 : fetch 213 1292 = some (.aload_n 2) := by decide +kernel
theorem e_Law_law_1292 (a0 a1 a3 : AV) (σ : aM) (l2 : Option (Nat × Int)) (r : List AV)  : ev 213 1292 [a0, a1, aQ l2, a3] (r) σ = ev 213 1293 [a0, a1, aQ l2, a3] (aQ l2 :: r) σ := ev_go f_Law_law_1292 rfl
theorem f_Law_law_1293 : fetch 213 1293 = some (.invokevirtual 158) := by decide +kernel
theorem e_Law_law_1293 (a0 a1 a2 a3 : AV) (σ : aM) (s0 : Int) (s1 : Int) : ev 213 1293 [a0, a1, a2, a3] [aR 25 s1, aI s0] σ = evK 213 1296 [a0, a1, a2, a3] [aI s0] (ev 209 0 [aR 25 s1, aU] [] σ) := ev_call f_Law_law_1293 rfl rfl
theorem f_Law_law_1296 : fetch 213 1296 = some (.if_icmp .eq 28) := by decide +kernel
theorem e_Law_law_1296 (a0 a1 a2 a3 : AV) (σ : aM) (x z : Int) (r : List AV) : ev 213 1296 [a0, a1, a2, a3] (aI z :: aI x :: r) σ = if x = z then ev 213 1324 [a0, a1, a2, a3] r σ else ev 213 1299 [a0, a1, a2, a3] r σ := ev_br f_Law_law_1296 rfl bc_eq
theorem f_Law_law_1299 : fetch 213 1299 = some (.iconst 0) := by decide +kernel
theorem e_Law_law_1299 (a0 a1 a2 a3 : AV) (σ : aM) (r : List AV)  : ev 213 1299 [a0, a1, a2, a3] (r) σ = ev 213 1300 [a0, a1, a2, a3] (aI 0 :: r) σ := ev_go f_Law_law_1299 rfl
theorem f_Law_law_1300 : fetch 213 1300 = some (.ireturn) := by decide +kernel
theorem e_Law_law_1300 (a0 a1 a2 a3 : AV) (σ : aM) (x : Int) (h : x = 0 ∨ x = 1) : ev 213 1300 [a0, a1, a2, a3] [aI x] σ = some ((some (aI x)), σ) := ev_rB f_Law_law_1300 rfl h
theorem f_Law_law_1301 : fetch 213 1301 = some (.aload_n 1) := by decide +kernel
theorem e_Law_law_1301 (a0 a2 a3 : AV) (σ : aM) (l1 : Option (Nat × Int)) (r : List AV)  : ev 213 1301 [a0, aQ l1, a2, a3] (r) σ = ev 213 1302 [a0, aQ l1, a2, a3] (aQ l1 :: r) σ := ev_go f_Law_law_1301 rfl
theorem f_Law_law_1302 : fetch 213 1302 = some (.aload_n 0) := by decide +kernel
theorem e_Law_law_1302 (a1 a2 a3 : AV) (σ : aM) (l0 : Option (Nat × Int)) (r : List AV)  : ev 213 1302 [aQ l0, a1, a2, a3] (r) σ = ev 213 1303 [aQ l0, a1, a2, a3] (aQ l0 :: r) σ := ev_go f_Law_law_1302 rfl
theorem f_Law_law_1303 : fetch 213 1303 = some (.iload_n 3) := by decide +kernel
theorem e_Law_law_1303 (a0 a1 a2 : AV) (σ : aM) (l3 : Int) (r : List AV)  : ev 213 1303 [a0, a1, a2, aI l3] (r) σ = ev 213 1304 [a0, a1, a2, aI l3] (aI l3 :: r) σ := ev_go f_Law_law_1303 rfl
theorem f_Law_law_1304 : fetch 213 1304 = some (.iconst 1) := by decide +kernel
theorem e_Law_law_1304 (a0 a1 a2 a3 : AV) (σ : aM) (r : List AV)  : ev 213 1304 [a0, a1, a2, a3] (r) σ = ev 213 1305 [a0, a1, a2, a3] (aI 1 :: r) σ := ev_go f_Law_law_1304 rfl
theorem f_Law_law_1305 : fetch 213 1305 = some (.iadd) := by decide +kernel
theorem e_Law_law_1305 (a0 a1 a2 a3 : AV) (σ : aM) (x z : Int) (r : List AV)  : ev 213 1305 [a0, a1, a2, a3] (aI z :: aI x :: r) σ = ev 213 1306 [a0, a1, a2, a3] (aI (wr (x + z)) :: r) σ := ev_go f_Law_law_1305 rfl
theorem f_Law_law_1306 : fetch 213 1306 = some (.iaload) := by decide +kernel
theorem e_Law_law_1306 (a0 a1 a2 a3 : AV) (σ : aM) (x : Int) (r : List AV) (h : 0 ≤ x ∧ x < gI σ 34 0 (-1)) : ev 213 1306 [a0, a1, a2, a3] (aI x :: aR 34 0 :: r) σ = ev 213 1307 [a0, a1, a2, a3] (aI (gI σ 34 0 x) :: r) σ := ev_ldS f_Law_law_1306 rfl h
theorem f_Law_law_1307 : fetch 213 1307 = some (.invokevirtual 159) := by decide +kernel
theorem e_Law_law_1307 (a0 a1 a2 a3 : AV) (σ : aM) (s0 : Int) (s1 : Int) : ev 213 1307 [a0, a1, a2, a3] [aI s1, aR 0 s0] σ = evK 213 1310 [a0, a1, a2, a3] [] (ev 112 0 [aR 0 s0, aI s1] [] σ) := ev_call f_Law_law_1307 rfl rfl
theorem f_Law_law_1310 : fetch 213 1310 = some (.aload_n 2) := by decide +kernel
theorem e_Law_law_1310 (a0 a1 a3 : AV) (σ : aM) (l2 : Option (Nat × Int)) (r : List AV)  : ev 213 1310 [a0, a1, aQ l2, a3] (r) σ = ev 213 1311 [a0, a1, aQ l2, a3] (aQ l2 :: r) σ := ev_go f_Law_law_1310 rfl
theorem f_Law_law_1311 : fetch 213 1311 = some (.aload_n 0) := by decide +kernel
theorem e_Law_law_1311 (a1 a2 a3 : AV) (σ : aM) (l0 : Option (Nat × Int)) (r : List AV)  : ev 213 1311 [aQ l0, a1, a2, a3] (r) σ = ev 213 1312 [aQ l0, a1, a2, a3] (aQ l0 :: r) σ := ev_go f_Law_law_1311 rfl
theorem f_Law_law_1312 : fetch 213 1312 = some (.iload_n 3) := by decide +kernel
theorem e_Law_law_1312 (a0 a1 a2 : AV) (σ : aM) (l3 : Int) (r : List AV)  : ev 213 1312 [a0, a1, a2, aI l3] (r) σ = ev 213 1313 [a0, a1, a2, aI l3] (aI l3 :: r) σ := ev_go f_Law_law_1312 rfl
theorem f_Law_law_1313 : fetch 213 1313 = some (.iconst 1) := by decide +kernel
theorem e_Law_law_1313 (a0 a1 a2 a3 : AV) (σ : aM) (r : List AV)  : ev 213 1313 [a0, a1, a2, a3] (r) σ = ev 213 1314 [a0, a1, a2, a3] (aI 1 :: r) σ := ev_go f_Law_law_1313 rfl
theorem f_Law_law_1314 : fetch 213 1314 = some (.iadd) := by decide +kernel
theorem e_Law_law_1314 (a0 a1 a2 a3 : AV) (σ : aM) (x z : Int) (r : List AV)  : ev 213 1314 [a0, a1, a2, a3] (aI z :: aI x :: r) σ = ev 213 1315 [a0, a1, a2, a3] (aI (wr (x + z)) :: r) σ := ev_go f_Law_law_1314 rfl
theorem f_Law_law_1315 : fetch 213 1315 = some (.iaload) := by decide +kernel
theorem e_Law_law_1315 (a0 a1 a2 a3 : AV) (σ : aM) (x : Int) (r : List AV) (h : 0 ≤ x ∧ x < gI σ 34 0 (-1)) : ev 213 1315 [a0, a1, a2, a3] (aI x :: aR 34 0 :: r) σ = ev 213 1316 [a0, a1, a2, a3] (aI (gI σ 34 0 x) :: r) σ := ev_ldS f_Law_law_1315 rfl h
theorem f_Law_law_1316 : fetch 213 1316 = some (.invokevirtual 162) := by decide +kernel
theorem e_Law_law_1316 (a0 a1 a2 a3 : AV) (σ : aM) (s0 : Int) (s1 : Int) (s2 : Int) : ev 213 1316 [a0, a1, a2, a3] [aI s2, aR 25 s1, aI s0] σ = evK 213 1319 [a0, a1, a2, a3] [aI s0] (ev 210 0 [aR 25 s1, aI s2] [] σ) := ev_call f_Law_law_1316 rfl rfl
theorem f_Law_law_1319 : fetch 213 1319 = some (.if_icmp .eq 5) := by decide +kernel
theorem e_Law_law_1319 (a0 a1 a2 a3 : AV) (σ : aM) (x z : Int) (r : List AV) : ev 213 1319 [a0, a1, a2, a3] (aI z :: aI x :: r) σ = if x = z then ev 213 1324 [a0, a1, a2, a3] r σ else ev 213 1322 [a0, a1, a2, a3] r σ := ev_br f_Law_law_1319 rfl bc_eq
theorem f_Law_law_1322 : fetch 213 1322 = some (.iconst 0) := by decide +kernel
theorem e_Law_law_1322 (a0 a1 a2 a3 : AV) (σ : aM) (r : List AV)  : ev 213 1322 [a0, a1, a2, a3] (r) σ = ev 213 1323 [a0, a1, a2, a3] (aI 0 :: r) σ := ev_go f_Law_law_1322 rfl
theorem f_Law_law_1323 : fetch 213 1323 = some (.ireturn) := by decide +kernel
theorem e_Law_law_1323 (a0 a1 a2 a3 : AV) (σ : aM) (x : Int) (h : x = 0 ∨ x = 1) : ev 213 1323 [a0, a1, a2, a3] [aI x] σ = some ((some (aI x)), σ) := ev_rB f_Law_law_1323 rfl h
theorem f_Law_law_1324 : fetch 213 1324 = some (.iinc 3 6) := by decide +kernel
theorem e_Law_law_1324 (a0 a1 : AV) (σ : aM) (l3 : Int) (l2 : Option (Nat × Int)) (r : List AV)  : ev 213 1324 [a0, a1, aQ l2, aI l3] (r) σ = ev 213 1327 [a0, a1, aQ l2, aI (wr (l3 + 6))] (r) σ := ev_go f_Law_law_1324 rfl
theorem f_Law_law_1327 : fetch 213 1327 = some (.goto (-1309)) := by decide +kernel
theorem e_Law_law_1327 (a0 a1 a2 a3 : AV) (σ : aM) (r : List AV)  : ev 213 1327 [a0, a1, a2, a3] (r) σ = ev 213 18 [a0, a1, a2, a3] (r) σ := ev_go f_Law_law_1327 rfl
theorem f_Law_law_1330 : fetch 213 1330 = some (.iconst 1) := by decide +kernel
theorem e_Law_law_1330 (a0 a1 a2 a3 : AV) (σ : aM) (r : List AV)  : ev 213 1330 [a0, a1, a2, a3] (r) σ = ev 213 1331 [a0, a1, a2, a3] (aI 1 :: r) σ := ev_go f_Law_law_1330 rfl
theorem f_Law_law_1331 : fetch 213 1331 = some (.ireturn) := by decide +kernel
theorem e_Law_law_1331 (a0 a1 a2 a3 : AV) (σ : aM) (x : Int) (h : x = 0 ∨ x = 1) : ev 213 1331 [a0, a1, a2, a3] [aI x] σ = some ((some (aI x)), σ) := ev_rB f_Law_law_1331 rfl h
