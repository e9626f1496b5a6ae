/-! the maker: the constructors' machine. The world is a list of cells; a reference is its cell's place there (as a family, index 0) -/
abbrev bE : Type := (Nat × (Nat × List (Nat × AV))) ⊕ (Nat × List AV)
abbrev bD : Type := List bE × Nat
abbrev bG : Type := Nat × (List AV × (List AV × bD))
def blen (i : Instr) : Nat := match i with
  | .new _ | .invokespecial _ | .anewarray _ => 3
  | .newarray _ => 2
  | i => ilen i
def bT0 : List (Nat × Instr) := [(0, .aload_n 0), (1, .invokespecial 3), (4, .aload_n 0), (5, .sipush 1000), (8, .newarray .int), (10, .putfield 9), (13, .aload_n 0), (14, .sipush 1000), (17, .newarray .int), (19, .putfield 15), (22, .aload_n 0), (23, .iconst 0), (24, .putfield 18), (27, .aload_n 0), (28, .iconst 0), (29, .putfield 22), (32, .return_)]
def bT3 : List (Nat × Instr) := [(0, .aload_n 0), (1, .invokespecial 3), (4, .aload_n 0), (5, .bipush 60), (7, .anewarray 9), (10, .putfield 11), (13, .aload_n 0), (14, .new 17), (17, .dup), (18, .invokespecial 19), (21, .putfield 20), (24, .aload_n 0), (25, .iconst 0), (26, .putfield 24), (29, .aload_n 0), (30, .iconst 0), (31, .putfield 28), (34, .aload_n 0), (35, .iconst 0), (36, .putfield 31), (39, .aload_n 0), (40, .iconst 1), (41, .putfield 34), (44, .aload_n 0), (45, .iconst 0), (46, .putfield 37), (49, .iconst 0), (50, .istore_n 1), (51, .iload_n 1), (52, .bipush 60), (54, .if_icmp .ge 23), (57, .aload_n 0), (58, .getfield 11), (61, .iload_n 1), (62, .new 9), (65, .dup), (66, .iload_n 1), (67, .invokespecial 40), (70, .aastore), (71, .iinc 1 1), (74, .goto (-23)), (77, .return_)]
def bT13 : List (Nat × Instr) := [(0, .aload_n 0), (1, .invokespecial 3), (4, .aload_n 0), (5, .new 9), (8, .dup), (9, .invokespecial 11), (12, .putfield 12), (15, .aload_n 0), (16, .new 18), (19, .dup), (20, .iconst (-1)), (21, .invokespecial 20), (24, .putfield 23), (27, .return_)]
def bT33 : List (Nat × Instr) := [(0, .aload_n 0), (1, .invokespecial 3), (4, .aload_n 0), (5, .iconst 0), (6, .putfield 9), (9, .aload_n 0), (10, .iconst 0), (11, .putfield 15), (14, .aload_n 0), (15, .iconst 0), (16, .putfield 18), (19, .aload_n 0), (20, .iconst 0), (21, .putfield 21), (24, .aload_n 0), (25, .iconst 3), (26, .putfield 24), (29, .aload_n 0), (30, .iconst 0), (31, .putfield 27), (34, .aload_n 0), (35, .iconst 0), (36, .putfield 30), (39, .aload_n 0), (40, .iconst 0), (41, .putfield 33), (44, .aload_n 0), (45, .iconst 0), (46, .putfield 36), (49, .aload_n 0), (50, .iconst 0), (51, .putfield 39), (54, .aload_n 0), (55, .iload_n 1), (56, .putfield 42), (59, .return_)]
def bT45 : List (Nat × Instr) := [(0, .aload_n 0), (1, .invokespecial 3), (4, .aload_n 0), (5, .bipush 60), (7, .anewarray 9), (10, .putfield 11), (13, .aload_n 0), (14, .bipush 60), (16, .newarray .int), (18, .putfield 17), (21, .aload_n 0), (22, .iconst 0), (23, .putfield 21), (26, .return_)]
def bT53 : List (Nat × Instr) := [(0, .aload_n 0), (1, .invokespecial 3), (4, .aload_n 0), (5, .sipush 160), (8, .newarray .long), (10, .putfield 9), (13, .aload_n 0), (14, .iconst 0), (15, .putfield 15), (18, .aload_n 0), (19, .iconst (-1)), (20, .putfield 19), (23, .aload_n 0), (24, .iconst (-1)), (25, .putfield 22), (28, .return_)]
def bT63 : List (Nat × Instr) := [(0, .aload_n 0), (1, .invokespecial 3), (4, .aload_n 0), (5, .bipush 27), (7, .newarray .int), (9, .putfield 11), (12, .aload_n 0), (13, .bipush 27), (15, .newarray .int), (17, .putfield 15), (20, .aload_n 0), (21, .bipush 27), (23, .newarray .int), (25, .putfield 18), (28, .aload_n 0), (29, .bipush 27), (31, .newarray .int), (33, .putfield 21), (36, .aload_n 0), (37, .bipush 27), (39, .newarray .int), (41, .putfield 24), (44, .aload_n 0), (45, .iconst 0), (46, .putfield 27), (49, .aload_n 0), (50, .iconst 0), (51, .putfield 31), (54, .aload_n 0), (55, .iconst (-1)), (56, .putfield 34), (59, .return_)]
def bT71 : List (Nat × Instr) := [(0, .aload_n 0), (1, .invokespecial 3), (4, .aload_n 0), (5, .sipush 800), (8, .newarray .int), (10, .putfield 9), (13, .aload_n 0), (14, .bipush 8), (16, .newarray .int), (18, .putfield 15), (21, .aload_n 0), (22, .bipush 8), (24, .newarray .int), (26, .putfield 18), (29, .aload_n 0), (30, .iconst 0), (31, .putfield 21), (34, .aload_n 0), (35, .iconst 0), (36, .putfield 25), (39, .return_)]
def bT77 : List (Nat × Instr) := [(0, .aload_n 0), (1, .invokespecial 1), (4, .aload_n 0), (5, .bipush 8), (7, .anewarray 9), (10, .putfield 11), (13, .aload_n 0), (14, .bipush 8), (16, .newarray .int), (18, .putfield 15), (21, .aload_n 0), (22, .new 19), (25, .dup), (26, .invokespecial 21), (29, .putfield 22), (32, .aload_n 0), (33, .aload_n 0), (34, .getfield 22), (37, .getfield 26), (40, .putfield 30), (43, .aload_n 0), (44, .new 31), (47, .dup), (48, .invokespecial 33), (51, .putfield 34), (54, .aload_n 0), (55, .new 38), (58, .dup), (59, .invokespecial 40), (62, .putfield 41), (65, .aload_n 0), (66, .new 45), (69, .dup), (70, .invokespecial 47), (73, .putfield 48), (76, .aload_n 0), (77, .new 52), (80, .dup), (81, .invokespecial 54), (84, .putfield 55), (87, .aload_n 0), (88, .iconst 0), (89, .putfield 58), (92, .aload_n 0), (93, .iconst (-1)), (94, .putfield 62), (97, .iconst 0), (98, .istore_n 1), (99, .iload_n 1), (100, .bipush 8), (102, .if_icmp .ge 22), (105, .aload_n 0), (106, .getfield 11), (109, .iload_n 1), (110, .new 9), (113, .dup), (114, .invokespecial 66), (117, .aastore), (118, .iinc 1 1), (121, .goto (-22)), (124, .return_)]
def bT122 : List (Nat × Instr) := [(0, .aload_n 0), (1, .invokespecial 1), (4, .aload_n 0), (5, .sipush 1423), (8, .newarray .int), (10, .putfield 7), (13, .aload_n 0), (14, .sipush 1423), (17, .newarray .int), (19, .putfield 13), (22, .aload_n 0), (23, .bipush 8), (25, .newarray .int), (27, .putfield 16), (30, .aload_n 0), (31, .bipush 8), (33, .newarray .int), (35, .putfield 19), (38, .aload_n 0), (39, .bipush 8), (41, .newarray .int), (43, .putfield 22), (46, .aload_n 0), (47, .sipush 1280), (50, .newarray .long), (52, .putfield 25), (55, .aload_n 0), (56, .sipush 160), (59, .newarray .long), (61, .putfield 29), (64, .aload_n 0), (65, .iconst (-1)), (66, .putfield 32), (69, .aload_n 0), (70, .bipush 60), (72, .newarray .boolean), (74, .putfield 36), (77, .aload_n 0), (78, .getfield 7), (81, .sipush 604), (84, .iconst 1), (85, .iastore), (86, .iconst 0), (87, .istore_n 1), (88, .iload_n 1), (89, .bipush 8), (91, .if_icmp .ge 16), (94, .aload_n 0), (95, .getfield 19), (98, .iload_n 1), (99, .iconst (-1)), (100, .iastore), (101, .iinc 1 1), (104, .goto (-16)), (107, .return_)]
def bT213 : List (Nat × Instr) := [(0, .new 7), (3, .dup), (4, .invokespecial 9), (7, .astore_n 1), (8, .new 10), (11, .dup), (12, .invokespecial 12), (15, .astore_n 2), (16, .iconst 0), (17, .istore_n 3)]
def bIT (y : Nat) : List (Nat × Instr) := match y with
  | 0 => bT0
  | 3 => bT3
  | 13 => bT13
  | 33 => bT33
  | 45 => bT45
  | 53 => bT53
  | 63 => bT63
  | 71 => bT71
  | 77 => bT77
  | 122 => bT122
  | 213 => bT213
  | _ => []
def bfe (y pc : Nat) : Option Instr := ((bIT y).find? (fun q => q.1 == pc)).map (fun q => q.2)
def bdc (y pc : Nat) : Option (Instr × Nat) := match decode (mCd y) pc with
  | .ok q => some q
  | .error _ => none
theorem bI0_ok : (bT0.all fun q => decide (bdc 0 q.1 = some (q.2, blen q.2))) = true := by decide +kernel
theorem bI3_ok : (bT3.all fun q => decide (bdc 3 q.1 = some (q.2, blen q.2))) = true := by decide +kernel
theorem bI13_ok : (bT13.all fun q => decide (bdc 13 q.1 = some (q.2, blen q.2))) = true := by decide +kernel
theorem bI33_ok : (bT33.all fun q => decide (bdc 33 q.1 = some (q.2, blen q.2))) = true := by decide +kernel
theorem bI45_ok : (bT45.all fun q => decide (bdc 45 q.1 = some (q.2, blen q.2))) = true := by decide +kernel
theorem bI53_ok : (bT53.all fun q => decide (bdc 53 q.1 = some (q.2, blen q.2))) = true := by decide +kernel
theorem bI63_ok : (bT63.all fun q => decide (bdc 63 q.1 = some (q.2, blen q.2))) = true := by decide +kernel
theorem bI71_ok : (bT71.all fun q => decide (bdc 71 q.1 = some (q.2, blen q.2))) = true := by decide +kernel
theorem bI77_ok : (bT77.all fun q => decide (bdc 77 q.1 = some (q.2, blen q.2))) = true := by decide +kernel
theorem bI122_ok : (bT122.all fun q => decide (bdc 122 q.1 = some (q.2, blen q.2))) = true := by decide +kernel
theorem bI213_ok : (bT213.all fun q => decide (bdc 213 q.1 = some (q.2, blen q.2))) = true := by decide +kernel
theorem bIT_ok (y : Nat) : ((bIT y).all fun q => decide (bdc y q.1 = some (q.2, blen q.2))) = true := by
  unfold bIT
  split
  · exact bI0_ok
  · exact bI3_ok
  · exact bI13_ok
  · exact bI33_ok
  · exact bI45_ok
  · exact bI53_ok
  · exact bI63_ok
  · exact bI71_ok
  · exact bI77_ok
  · exact bI122_ok
  · exact bI213_ok
  · rfl
theorem bfe_dec {y pc : Nat} {i : Instr} {n : Nat} (h : bfe y pc = some i) (hn : blen i = n) : decode (mCd y) pc = .ok (i, n) := by
  unfold bfe at h
  cases hf : (bIT y).find? (fun q => q.1 == pc) with
  | none => rw [hf] at h; cases h
  | some q =>
    rw [hf] at h
    have e : q.2 = i := Option.some.inj h
    have hm := List.mem_of_find?_eq_some hf
    have hp : q.1 = pc := by
      have := List.find?_some hf
      exact beq_iff_eq.mp this
    have := of_decide_eq_true (List.all_eq_true.mp (bIT_ok y) q hm)
    rw [hp, e, hn] at this
    unfold bdc at this
    split at this
    · rename_i r hr
      rw [hr, Option.some.inj this]
    · cases this
def bST : List (Nat × Nat × Nat × Nat × Nat × Nat) := [(0, 3, 2, 0, 1187, 0), (1, 3, 2, 0, 1035, 0), (1, 9, 0, 3, 1036, 1067), (1, 17, 0, 7, 1038, 1039), (1, 19, 4, 71, 1040, 1041), (1, 40, 3, 33, 1068, 1069), (1, 100009, 1, 4, 1036, 0), (2, 3, 2, 0, 1029, 0), (2, 9, 0, 1, 1030, 1031), (2, 11, 3, 3, 1032, 1033), (2, 18, 0, 3, 1172, 1067), (2, 20, 3, 33, 1173, 1069), (3, 3, 2, 0, 1071, 0), (4, 3, 2, 0, 1208, 0), (4, 100009, 1, 4, 1209, 0), (5, 3, 2, 0, 2023, 0), (6, 3, 2, 0, 1225, 0), (7, 3, 2, 0, 1043, 0), (8, 1, 2, 0, 1019, 0), (8, 9, 0, 5, 1022, 2019), (8, 19, 0, 2, 1024, 1025), (8, 21, 4, 13, 1026, 1027), (8, 31, 0, 0, 1182, 1183), (8, 33, 4, 0, 1184, 1185), (8, 38, 0, 4, 1203, 1204), (8, 40, 4, 45, 1205, 1206), (8, 45, 0, 6, 1220, 1221), (8, 47, 4, 63, 1222, 1223), (8, 52, 0, 1, 2017, 1031), (8, 54, 3, 3, 2018, 1033), (8, 66, 4, 53, 2020, 2021), (8, 100009, 1, 3, 1022, 0), (9, 1, 2, 0, 4086, 0), (12, 7, 0, 8, 1014, 1015), (12, 9, 3, 77, 1016, 1017), (12, 10, 0, 9, 4081, 4082), (12, 12, 3, 122, 4083, 4084)]
def bsi (c x : Nat) : Option (Nat × Nat × Nat × Nat) := (bST.find? (fun q => q.1 == c && q.2.1 == x)).map (fun q => q.2.2)
def bwk (c x : Nat) (q : Nat × Nat × Nat × Nat) : Bool := match q with
  | (0, a, p1, p2) => decide (a < 10) && decide (wP p1 = some (Cond.classLink (cN c) x (cN a))) && decide (wP p2 = some (Cond.instantiable (cN a) (cS a)))
  | (1, a, p1, _) => (decide (a = 3) && decide (wP p1 = some (Cond.classLink (cN c) (x - 100000) (cN 5)))) || (decide (a = 4) && decide (wP p1 = some (Cond.classLink (cN c) (x - 100000) (cN 3))))
  | (2, _, p1, _) => decide (wP p1 = some (Cond.methodLink (cN c) x Lib.objectInit))
  | (3, a, p1, p2) => decide (a < 213) && decide ((mE a).2.1 = "<init>" ∧ mRt a = none) && decide (wP p1 = some (Cond.methodLink (cN c) x (mNm a))) && decide (wP p2 = some (Cond.instanceMethod (mNm a)))
  | (4, a, p1, p2) => decide (a < 213) && decide ((mE a).2.1 = "<init>" ∧ mRt a = none) && decide (wP p1 = some (Cond.methodLinkNest (cN c) x (mNm a) "UncrossedBook")) && decide (wP p2 = some (Cond.instanceMethod (mNm a)))
  | _ => false
theorem bST_ok : (bST.all fun q => bwk q.1 q.2.1 q.2.2) = true := by decide +kernel
theorem bsi_ok {c x : Nat} {q : Nat × Nat × Nat × Nat} (h : bsi c x = some q) : bwk c x q = true := by
  unfold bsi at h
  cases hf : bST.find? (fun q => q.1 == c && q.2.1 == x) with
  | none => rw [hf] at h; cases h
  | some r =>
    rw [hf] at h
    have e : r.2.2 = q := Option.some.inj h
    have hm := List.mem_of_find?_eq_some hf
    have hp := List.find?_some hf
    rw [Bool.and_eq_true] at hp
    have := List.all_eq_true.mp bST_ok r hm
    rw [beq_iff_eq.mp hp.1, beq_iff_eq.mp hp.2, e] at this
    exact this
theorem bOI_ok : wP 1020 = some (Cond.instanceMethod Lib.objectInit) ∧ wP 1021 = some (Cond.code Lib.objectInit ⟨#[0xb1]⟩ 1 none) := by decide +kernel
theorem bAC_ok : wP 1066 = some (Cond.arrayClass .int) ∧ wP 2042 = some (Cond.arrayClass .long) ∧ wP 4156 = some (Cond.arrayClass .boolean) ∧ wP 1023 = some (Cond.arrayOver (.object (cN 5))) ∧ wP 1037 = some (Cond.arrayOver (.object (cN 3))) := by decide +kernel
def bFr (y : Nat) : Nat := match y with
  | 0 => 1
  | 3 => 2
  | 13 => 3
  | 33 => 1
  | 45 => 1
  | 53 => 1
  | 63 => 1
  | 71 => 1
  | 77 => 4
  | 122 => 1
  | 213 => 5
  | _ => 0
def bWd (y : Nat) : Nat := match y with
  | 0 => 20
  | 3 => 41
  | 13 => 62
  | 33 => 20
  | 45 => 20
  | 53 => 20
  | 63 => 20
  | 71 => 20
  | 77 => 82
  | 122 => 20
  | 213 => 103
  | _ => 0
/-! meaning -/
def bad (f : Nat → Nat) : Nat → Int → Nat := fun k _ => f k
def blk : List (Nat × AV) → Nat → AV
  | [], _ => aU
  | q :: u, j => if j = q.1 then q.2 else blk u j
def bVI (v : AV) : Int32 := match v with
  | .inl a => Int32.ofInt a
  | _ => 0
def bVQ (f : Nat → Nat) (v : AV) : Option Nat := match v with
  | .inr (.inr (.inl q)) => q.map (fun q => f q.1)
  | _ => none
def bMa (f : Nat → Nat) (cy : Nat → ClassId) (T n : Nat) (u : List (Nat × AV)) : va_E :=
  if T = 0 then .inl (cy 0, n, .inl (fun j => bVI (blk u j))) else if T = 1 then .inl (cy 1, n, .inr (.inl (fun _ => 0))) else if T = 2 then .inl (cy 2, n, .inl (fun _ => 0)) else .inl (cy T, n, .inr (.inr (.inr (.inr (fun j => bVQ f (blk u j))))))
def bM (f : Nat → Nat) (cy : Nat → ClassId) (e : bE) : va_E := match e with
  | .inl q => bMa f cy q.1 q.2.1 q.2.2
  | .inr q => .inr (q.1, q.2.map (cv (bad f)))
def bWS (f : Nat → Nat) (cy : Nat → ClassId) (w : List bE) : va_W := w.mapIdx (fun k e => (f k, bM f cy e))
/-- references that lead into the world -/
def bok (n : Nat) (v : AV) : Bool := match v with
  | .inr (.inr (.inl (some q))) => decide (q.1 < n)
  | _ => true
def bokE (n : Nat) (e : bE) : Bool := match e with
  | .inl q => q.2.2.all (fun r => bok n r.2)
  | .inr q => q.2.all (bok n)
def bokW (w : List bE) (L st : List AV) : Bool := L.all (bok w.length) && st.all (bok w.length)
def bokV (w : List bE) : Prop := w.all (bokE w.length) = true
theorem cv_ext {f f' : Nat → Nat} {n : Nat} (hf : ∀ k, k < n → f' k = f k) {v : AV} (h : bok n v = true) : cv (bad f') v = cv (bad f) v := by
  rcases v with a | x | q | u
  · rfl
  · rfl
  · cases q with
    | none => rfl
    | some q =>
      have h : q.1 < n := of_decide_eq_true h
      show va_rf (some (f' q.1)) = va_rf (some (f q.1))
      rw [hf _ h]
  · rfl
theorem cvs_ext {f f' : Nat → Nat} {n : Nat} (hf : ∀ k, k < n → f' k = f k) {L : List AV} (h : L.all (bok n) = true) : L.map (cv (bad f')) = L.map (cv (bad f)) := List.map_congr_left (fun v hv => cv_ext hf (List.all_eq_true.mp h v hv))
theorem blk_ok {n : Nat} : ∀ {u : List (Nat × AV)}, u.all (fun r => bok n r.2) = true → ∀ j, bok n (blk u j) = true := by
  intro u
  induction u with
  | nil => intro _ j; rfl
  | cons q u ih =>
    intro h j
    rw [List.all_cons, Bool.and_eq_true] at h
    rw [blk]
    split
    · exact h.1
    · exact ih h.2 j
theorem bVQ_ext {f f' : Nat → Nat} {n : Nat} (hf : ∀ k, k < n → f' k = f k) {v : AV} (h : bok n v = true) : bVQ f' v = bVQ f v := by
  rcases v with a | x | q | u
  · rfl
  · rfl
  · cases q with
    | none => rfl
    | some q =>
      have h : q.1 < n := of_decide_eq_true h
      show some (f' q.1) = some (f q.1)
      rw [hf _ h]
  · rfl
theorem bM_ext {f f' : Nat → Nat} {cy : Nat → ClassId} {n : Nat} (hf : ∀ k, k < n → f' k = f k) {e : bE} (h : bokE n e = true) : bM f' cy e = bM f cy e := by
  rcases e with q | q
  · have h : q.2.2.all (fun r => bok n r.2) = true := h
    show bMa f' cy q.1 q.2.1 q.2.2 = bMa f cy q.1 q.2.1 q.2.2
    unfold bMa
    rw [show (fun j => bVQ f' (blk q.2.2 j)) = (fun j => bVQ f (blk q.2.2 j)) from funext fun j => bVQ_ext hf (blk_ok h j)]
  · show Sum.inr (q.1, q.2.map (cv (bad f'))) = Sum.inr (q.1, q.2.map (cv (bad f)))
    rw [cvs_ext hf h]
theorem bWS_at {f : Nat → Nat} {cy : Nat → ClassId} {w : List bE} {k : Nat} {e : bE} (h : w[k]? = some e) : (bWS f cy w)[k]? = some (f k, bM f cy e) := by
  unfold bWS
  rw [List.getElem?_mapIdx, h]
  rfl
theorem bWS_ext {f f' : Nat → Nat} {cy : Nat → ClassId} {w : List bE} (hf : ∀ k, k < w.length → f' k = f k) (h : w.all (bokE w.length) = true) : bWS f' cy w = bWS f cy w := by
  apply List.ext_getElem?
  intro k
  unfold bWS
  rw [List.getElem?_mapIdx, List.getElem?_mapIdx]
  cases hk : w[k]? with
  | none => rfl
  | some e =>
    have hl := (List.getElem?_eq_some_iff.mp hk).1
    have hm := List.mem_of_getElem? hk
    show some (f' k, bM f' cy e) = some (f k, bM f cy e)
    rw [hf k hl, bM_ext hf (List.all_eq_true.mp h e hm)]
theorem bWS_push (f : Nat → Nat) (cy : Nat → ClassId) (w : List bE) (e : bE) : bWS f cy (w ++ [e]) = bWS f cy w ++ [(f w.length, bM f cy e)] := by
  unfold bWS
  rw [List.mapIdx_concat]
theorem bWS_set (f : Nat → Nat) (cy : Nat → ClassId) (w : List bE) (k : Nat) (e : bE) : (bWS f cy w).set k (f k, bM f cy e) = bWS f cy (w.set k e) := by
  unfold bWS
  rw [List.mapIdx_set]
/-- an address more -/
def bup (f : Nat → Nat) (n q : Nat) : Nat → Nat := fun k => if k = n then q else f k
theorem bup_lt {f : Nat → Nat} {n q : Nat} : ∀ k, k < n → bup f n q k = f k := fun k hk => if_neg (by omega)
theorem bup_n {f : Nat → Nat} {n q : Nat} : bup f n q n = q := if_pos rfl
theorem LR_ext {f f' : Nat → Nat} {n : Nat} (hf : ∀ k, k < n → f' k = f k) {L : List AV} {ls : Array Slot} (h : L.all (bok n) = true) (hl : LR (bad f) L ls) : LR (bad f') L ls := ⟨hl.1, hl.2.1, fun k v hk hc => by rw [hl.2.2 k v hk hc, cv_ext hf (List.all_eq_true.mp h v (List.mem_of_getElem? hk))]⟩
