/-! the maker's step -/
def bgo (pc : Nat) (L st : List AV) (w : bD) : Option (bG ⊕ (Nat × (List AV × bG))) := some (.inl (pc, L, st, w))
def dfl (c : Nat) : List AV := (List.range (cS c)).map (fun k => if sK c k = 2 then aN else aI 0)
def bnp (y : Nat) : Nat := if y = 33 then 1 else 0
def bfit (c j : Nat) (v : AV) : Bool := match sK c j, v with
  | 0, .inl _ => true
  | 1, .inl a => isB a
  | 2, .inr (.inr (.inl (some _))) => true
  | 3, .inl _ => true
  | _, _ => false
def bcl (y y' pc : Nat) (L : List AV) (w : bD) (n : Nat) (st : List AV) : Option (bG ⊕ (Nat × (List AV × bG))) := match st.drop n with
  | .inr (.inr (.inl (some q))) :: r => if n ≤ st.length ∧ L.length = mL y ∧ bFr y' + 1 ≤ bFr y ∧ 8 + (mL y' + 11) + bWd y' ≤ bWd y ∧ cats r ≤ 8 ∧ (lay (aR q.1 q.2 :: (st.take n).reverse)).length ≤ mL y' ∧ (parseMethodDescriptor (mNm y').desc).map (fun d => d.parameters.length) = some n ∧ bokW w.1 L st = true then some (.inr (y', aR q.1 q.2 :: (st.take n).reverse, (pc + 3, L, r, w))) else none
  | _ => none
def bst (y : Nat) (i : Instr) (pc : Nat) (L st : List AV) (w : bD) : Option (bG ⊕ (Nat × (List AV × bG))) := match i with
  | .aload_n k => (match L[(k : Nat)]? with | some (.inr (.inr (.inl (some q)))) => bgo (pc + 1) L (aQ (some q) :: st) w | _ => none)
  | .iload_n k => (match L[(k : Nat)]? with | some (.inl v) => bgo (pc + 1) L (aI v :: st) w | _ => none)
  | .istore_n k => (match st with | .inl v :: r => if ((k : Nat) < L.length ∧ okSt L k = true) ∧ (k : Nat) ≠ 0 then bgo (pc + 1) (L.set k (aI v)) r w else none | _ => none)
  | .astore_n k => (match st with | .inr (.inr (.inl (some q))) :: r => if ((k : Nat) < L.length ∧ okSt L k = true) ∧ (k : Nat) ≠ 0 then bgo (pc + 1) (L.set k (aQ (some q))) r w else none | _ => none)
  | .iinc k n => (match L[k]? with | some (.inl v) => if (k < L.length ∧ okSt L k = true) ∧ k ≠ 0 then bgo (pc + 3) (L.set k (aI (wr (v + n)))) st w else none | _ => none)
  | .iconst n => bgo (pc + 1) L (aI n :: st) w
  | .bipush n => if -128 ≤ n ∧ n < 128 then bgo (pc + 2) L (aI n :: st) w else none
  | .sipush n => if -32768 ≤ n ∧ n < 32768 then bgo (pc + 3) L (aI n :: st) w else none
  | .dup => (match st with | v :: r => if cat v = 1 then bgo (pc + 1) L (v :: v :: r) w else none | _ => none)
  | .goto off => (match tg pc off with | some t => bgo t L st w | none => none)
  | .if_icmp .ge off => (match st with | .inl b :: .inl a :: r => if (-2147483648 ≤ a ∧ a < 2147483648) ∧ (-2147483648 ≤ b ∧ b < 2147483648) then (match tg pc off with | some t => if b ≤ a then bgo t L r w else bgo (pc + 3) L r w | none => none) else none | _ => none)
  | .getfield x => (match st with
    | .inr (.inr (.inl (some q))) :: r => (match fld (mC y) x, w.1[q.1]? with
      | some (c, k), some (.inr e) => if e.1 = c then (match e.2[k]? with | some v => bgo (pc + 3) L (v :: r) w | none => none) else none
      | _, _ => none)
    | _ => none)
  | .putfield x => (match st with
    | v :: .inr (.inr (.inl (some q))) :: r => (match fld (mC y) x, w.1[q.1]? with
      | some (c, k), some (.inr e) => if e.1 = c ∧ k < e.2.length ∧ bfit c k v = true ∧ (c = mC y ∨ (cT c k).2.2.2 = false) then bgo (pc + 3) L r (w.1.set q.1 (.inr (c, e.2.set k v)), w.2) else none
      | _, _ => none)
    | _ => none)
  | .iastore => (match st with
    | .inl v :: .inl a :: .inr (.inr (.inl (some q))) :: r => (match w.1[q.1]? with
      | some (.inl e) => if e.1 = 0 ∧ 0 ≤ a ∧ a < (e.2.1 : Int) ∧ a < 2147483648 then bgo (pc + 1) L r (w.1.set q.1 (.inl (0, e.2.1, (a.toNat, aI v) :: e.2.2)), w.2) else none
      | _ => none)
    | _ => none)
  | .aastore => (match st with
    | .inr (.inr (.inl (some v))) :: .inl a :: .inr (.inr (.inl (some q))) :: r => (match w.1[q.1]?, w.1[v.1]? with
      | some (.inl e), some (.inr o) => if ((e.1 = 3 ∧ o.1 = 5) ∨ (e.1 = 4 ∧ o.1 = 3)) ∧ 0 ≤ a ∧ a < (e.2.1 : Int) ∧ a < 2147483648 then bgo (pc + 1) L r (w.1.set q.1 (.inl (e.1, e.2.1, (a.toNat, aQ (some v)) :: e.2.2)), w.2) else none
      | _, _ => none)
    | _ => none)
  | .newarray t => (match st with
    | .inl a :: r => (match t with
      | .int => if (0 ≤ a ∧ a ≤ 10000) ∧ bokW w.1 L st = true then bgo (pc + 2) L (aR w.1.length 0 :: r) (w.1 ++ [.inl (0, a.toNat, [])], w.2 + a.toNat) else none
      | .long => if (0 ≤ a ∧ a ≤ 10000) ∧ bokW w.1 L st = true then bgo (pc + 2) L (aR w.1.length 0 :: r) (w.1 ++ [.inl (1, a.toNat, [])], w.2 + a.toNat) else none
      | .boolean => if (0 ≤ a ∧ a ≤ 10000) ∧ bokW w.1 L st = true then bgo (pc + 2) L (aR w.1.length 0 :: r) (w.1 ++ [.inl (2, a.toNat, [])], w.2 + a.toNat) else none
      | _ => none)
    | _ => none)
  | .anewarray x => (match st, bsi (mC y) (x + 100000) with
    | .inl a :: r, some (1, T, _, _) => if (0 ≤ a ∧ a ≤ 10000) ∧ bokW w.1 L st = true then bgo (pc + 3) L (aR w.1.length 0 :: r) (w.1 ++ [.inl (T, a.toNat, [])], w.2 + a.toNat) else none
    | _, _ => none)
  | .new x => (match bsi (mC y) x with
    | some (0, c, _, _) => if bokW w.1 L st = true then bgo (pc + 3) L (aR w.1.length 0 :: st) (w.1 ++ [.inr (c, dfl c)], w.2 + cS c) else none
    | _ => none)
  | .invokespecial x => (match bsi (mC y) x with
    | some (2, _, _, _) => (match st with | .inr (.inr (.inl (some _))) :: r => if cats r ≤ 8 ∧ L.length = mL y ∧ 1 ≤ bFr y ∧ 20 ≤ bWd y then bgo (pc + 3) L r w else none | _ => none)
    | some (3, y', _, _) => bcl y y' pc L w (bnp y') st
    | some (4, y', _, _) => bcl y y' pc L w (bnp y') st
    | _ => none)
  | _ => none
def bend (y pc : Nat) (st : List AV) : Bool := match bfe y pc with
  | some .return_ => st.isEmpty
  | some _ => false
  | none => y == 213 && pc == 18
def brun : Nat → Nat → bG → Option bG
  | 0, _, _ => none
  | n + 1, y, (pc, L, st, w) => if bend y pc st = true then some (pc, L, st, w) else match bfe y pc with
    | none => none
    | some i => match bst y i pc L st w with
      | none => none
      | some (.inl g) => if w.1.length ≤ g.2.2.2.1.length ∧ w.2 ≤ g.2.2.2.2 then brun n y g else none
      | some (.inr (y', as, (pc', L', r, _))) => match brun n y' (0, lay0 y' as, [], w) with
        | none => none
        | some (_, _, _, w2) => brun n y (pc', L', r, w2)
