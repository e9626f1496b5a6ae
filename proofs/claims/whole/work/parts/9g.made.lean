/-! what is made -/
def bP (t i : Nat) : Nat := match t with
  | 0 => 0 | 1 => 1 | 2 => 149 + 2 * i | 3 => 150 + 2 * i | 4 => 2 | 5 => 3
  | 6 => if i = 0 then 4 else 83
  | 7 => if i = 0 then 5 else 84
  | 8 => if i < 60 then 10 + i else if i < 120 then 29 + i else 70
  | 9 => if i = 0 then 6 else 85
  | 10 => if i = 0 then 7 else 86
  | 11 => if i = 0 then 8 else 87
  | 12 => if i = 0 then 9 else 88
  | 25 => 165
  | t => if t < 25 then 58 + t else 140 + t
/-- the ints at the start -/
def cI0 (t : Nat) (i j : Int) : Int :=
  if t = 8 then (if j = 0 then (if 0 ≤ i ∧ i < 60 then i else if 60 ≤ i ∧ i < 120 then i - 60 else if i = 120 then -1 else 0) else if j = 5 then 3 else 0)
  else if t = 2 then (if j = 2 ∨ j = 3 then -1 else 0)
  else if t = 6 then (if j = 5 then 1 else 0)
  else if t = 19 then (if j = 7 then -1 else 0)
  else if t = 0 then (if j = 9 then -1 else 0)
  else if t = 25 then (if j = 18 then -1 else 0)
  else if t = 26 then (if j = 604 then 1 else 0)
  else if t = 29 then (if 0 ≤ j ∧ j < 8 then -1 else 0)
  else 0
def bups (t i : Nat) : List (Nat × AV) :=
  if t = 1 then (List.range 8).reverse.map (fun j => (j, aR (149 + 2 * j) 0))
  else if t = 7 then (List.range 60).reverse.map (fun j => (j, aR (bP 8 (60 * i + j)) 0))
  else if t = 26 then [(604, aI 1)]
  else if t = 29 then (List.range 8).reverse.map (fun j => (j, aI (-1)))
  else []
def bcr (q : Option (Nat × Int)) : AV := aQ (q.map (fun q => (bP q.1 q.2.toNat, 0)))
def bsl (t i k : Nat) : AV := match sK (fC t) k with
  | 2 => bcr (cref t (i : Int) k)
  | _ => aI (cI0 t (i : Int) (k : Int))
def bkd (T : Nat) : Nat := if T = 5 then 4 else T
def bX (t i : Nat) : bE := if fC t = 99 then .inl (bkd (fT t), fL t, bups t i) else .inr (fC t, (List.range (cS (fC t))).map (fun k => bsl t i k))
def uEq : List (Nat × AV) → List (Nat × AV) → Bool
  | [], [] => true
  | a :: u, b :: v => decide (a.1 = b.1) && (decide (a.2 = b.2) && uEq u v)
  | _, _ => false
theorem uEq_ok : ∀ (u v : List (Nat × AV)), uEq u v = true → u = v := by
  intro u
  induction u with
  | nil => intro v h; cases v with
    | nil => rfl
    | cons b v => cases h
  | cons a u ih =>
    intro v h
    cases v with
    | nil => cases h
    | cons b v =>
      rw [uEq] at h
      simp only [Bool.and_eq_true, decide_eq_true_eq] at h
      rw [ih v h.2.2, show a = b from Prod.ext h.1 h.2.1]
def bEq (a : Option bE) (b : bE) : Bool := match a, b with
  | some (.inl x), .inl y => decide (x.1 = y.1) && (decide (x.2.1 = y.2.1) && uEq x.2.2 y.2.2)
  | some (.inr x), .inr y => decide (x.1 = y.1) && decide (x.2 = y.2)
  | _, _ => false
theorem bEq_ok {a : Option bE} {b : bE} (h : bEq a b = true) : a = some b := by
  unfold bEq at h
  split at h
  · rename_i x y
    simp only [Bool.and_eq_true, decide_eq_true_eq] at h
    rw [show x = y from Prod.ext h.1 (Prod.ext h.2.1 (uEq_ok _ _ h.2.2))]
  · rename_i x y
    simp only [Bool.and_eq_true, decide_eq_true_eq] at h
    rw [show x = y from Prod.ext h.1 h.2]
  · cases h
def bchk (g : Option bG) : Bool := match g with
  | some (pc, L, st, w) => (pc == 18 && (st.isEmpty && decide (L = [aU, aR 0 0, aR 165 0, aI 0]))) && ((decide (w.1.length = 174) && decide (w.2 ≤ 20000)) && allTI.all (fun q => bEq w.1[bP q.1 q.2]? (bX q.1 q.2)))
  | none => false
theorem bP_inj : (allTI.all fun a => allTI.all fun b => decide (bP a.1 a.2 = bP b.1 b.2 → a = b)) = true := by decide +kernel
theorem bcr_34 : ((List.range 34).all fun t => (List.range 24).all fun k => decide (((crT.getD t []).getD k (0, 0, 0)).1 ≠ 34)) = true := by decide +kernel
theorem b0_int : ((List.range 34).all fun t => (List.range (fN t)).all fun i => (decide (¬ (fC t = 99 ∧ fT t = 0)) || (List.range (fL t)).all fun j => decide (bVI (blk (bups t i) j) = Int32.ofInt (cI0 t (i : Int) (j : Int))))) = true := by decide +kernel
theorem b0_bool : ((List.range 34).all fun t => (List.range (fN t)).all fun i => (decide (¬ (fC t = 99 ∧ fT t = 2)) || (List.range (fL t)).all fun j => decide ((0 : Int32) = Int32.ofInt (cI0 t (i : Int) (j : Int))))) = true := by decide +kernel
theorem b0_shl : ((List.range 34).all fun t => (List.range (fN t)).all fun i => (decide (¬ (fC t = 99 ∧ fT t = 3)) || (List.range (fL t)).all fun j => decide (blk (bups t i) j = aR (bP 2 j) 0))) = true := by decide +kernel
theorem b0_ord : ((List.range 34).all fun t => (List.range (fN t)).all fun i => (decide (¬ (fC t = 99 ∧ fT t = 4)) || (List.range (fL t)).all fun j => decide (blk (bups t i) j = aR (bP 8 (60 * i + j)) 0))) = true := by decide +kernel
theorem b0_lin : ((List.range 34).all fun t => (List.range (fN t)).all fun i => decide (fC t = 99 ∧ fT t = 5 → bups t i = [])) = true := by decide +kernel
theorem b0_kin : ((List.range 34).all fun t => decide ((fC t = 99 ∧ fT t < 6) ∨ (fC t < 10 ∧ fT t = 8))) = true := by decide +kernel
theorem b0_sl : ((List.range 10).all fun c => decide (cS c ≤ 24)) = true := by decide +kernel
