/-! the maker's step -/
def bgo (pc : Nat) (L st : List AV) (w : bD) : Option (bG ⊕ (Nat × (List AV × bG))) := some (.inl (pc, L, st, w))
def dfl (c : Nat) : List AV := (List.range (cS c)).map (fun k => if sK c k = 2 then aN else aI 0)
def bnp (y : Nat) : Nat := if y = 33 then 1 else 0
def bfit (c j : Nat) (v : AV) : Bool := match sK c j, v with
  | 0, .inl _ => true
  | 1, .inl a => isB a
  | 2, .inr (.inr (.inl (some _))) => true
  | 3, .inl _ => true
  | _, _ => false
def bcl (y y' pc : Nat) (L : List AV) (w : bD) (n : Nat) (st : List AV) : Option (bG ⊕ (Nat × (List AV × bG))) := match st.drop n with
  | .inr (.inr (.inl (some q))) :: r => if n ≤ st.length ∧ L.length = mL y ∧ bFr y' + 1 ≤ bFr y ∧ 8 + (mL y' + 11) + bWd y' ≤ bWd y ∧ cats r ≤ 8 ∧ (lay (aR q.1 q.2 :: (st.take n).reverse)).length ≤ mL y' ∧ (parseMethodDescriptor (mNm y').desc).map (fun d => d.parameters.length) = some n ∧ bokW w.1 L st = true then some (.inr (y', aR q.1 q.2 :: (st.take n).reverse, (pc + 3, L, r, w))) else none
  | _ => none
def bst (y : Nat) (i : Instr) (pc : Nat) (L st : List AV) (w : bD) : Option (bG ⊕ (Nat × (List AV × bG))) := match i with
  | .aload_n k => (match L[(k : Nat)]? with | some (.inr (.inr (.inl (some q)))) => bgo (pc + 1) L (aQ (some q) :: st) w | _ => none)
  | .iload_n k => (match L[(k : Nat)]? with | some (.inl v) => bgo (pc + 1) L (aI v :: st) w | _ => none)
  | .istore_n k => (match st with | .inl v :: r => if ((k : Nat) < L.length ∧ okSt L k = true) ∧ (k : Nat) ≠ 0 then bgo (pc + 1) (L.set k (aI v)) r w else none | _ => none)
  | .astore_n k => (match st with | .inr (.inr (.inl (some q))) :: r => if ((k : Nat) < L.length ∧ okSt L k = true) ∧ (k : Nat) ≠ 0 then bgo (pc + 1) (L.set k (aQ (some q))) r w else none | _ => none)
  | .iinc k n => (match L[k]? with | some (.inl v) => if (k < L.length ∧ okSt L k = true) ∧ k ≠ 0 then bgo (pc + 3) (L.set k (aI (wr (v + n)))) st w else none | _ => none)
  | .iconst n => bgo (pc + 1) L (aI n :: st) w
  | .bipush n => if -128 ≤ n ∧ n < 128 then bgo (pc + 2) L (aI n :: st) w else none
  | .sipush n => if -32768 ≤ n ∧ n < 32768 then bgo (pc + 3) L (aI n :: st) w else none
  | .dup => (match st with | v :: r => if cat v = 1 then bgo (pc + 1) L (v :: v :: r) w else none | _ => none)
  | .goto off => (match tg pc off with | some t => bgo t L st w | none => none)
  | .if_icmp .ge off => (match st with | .inl b :: .inl a :: r => if (-2147483648 ≤ a ∧ a < 2147483648) ∧ (-2147483648 ≤ b ∧ b < 2147483648) then (match tg pc off with | some t => if b ≤ a then bgo t L r w else bgo (pc + 3) L r w | none => none) else none | _ => none)
  | .getfield x => (match st with
    | .inr (.inr (.inl (some q))) :: r => (match fld (mC y) x, w.1[q.1]? with
      | some (c, k), some (.inr e) => if e.1 = c then (match e.2[k]? with | some v => bgo (pc + 3) L (v :: r) w | none => none) else none
      | _, _ => none)
    | _ => none)
  | .putfield x => (match st with
    | v :: .inr (.inr (.inl (some q))) :: r => (match fld (mC y) x, w.1[q.1]? with
      | some (c, k), some (.inr e) => if e.1 = c ∧ k < e.2.length ∧ bfit c k v = true ∧ (c = mC y ∨ (cT c k).2.2.2 = false) ∧ bok w.1.length v = true then bgo (pc + 3) L r (w.1.set q.1 (.inr (c, e.2.set k v)), w.2) else none
      | _, _ => none)
    | _ => none)
  | .iastore => (match st with
    | .inl v :: .inl a :: .inr (.inr (.inl (some q))) :: r => (match w.1[q.1]? with
      | some (.inl e) => if e.1 = 0 ∧ 0 ≤ a ∧ a < (e.2.1 : Int) ∧ a < 2147483648 then bgo (pc + 1) L r (w.1.set q.1 (.inl (0, e.2.1, (a.toNat, aI v) :: e.2.2)), w.2) else none
      | _ => none)
    | _ => none)
  | .aastore => (match st with
    | .inr (.inr (.inl (some v))) :: .inl a :: .inr (.inr (.inl (some q))) :: r => (match w.1[q.1]?, w.1[v.1]? with
      | some (.inl e), some (.inr o) => if ((e.1 = 3 ∧ o.1 = 5) ∨ (e.1 = 4 ∧ o.1 = 3)) ∧ (0 ≤ a ∧ a < (e.2.1 : Int) ∧ a < 2147483648) ∧ v.1 < w.1.length then bgo (pc + 1) L r (w.1.set q.1 (.inl (e.1, e.2.1, (a.toNat, aQ (some v)) :: e.2.2)), w.2) else none
      | _, _ => none)
    | _ => none)
  | .newarray t => (match st with
    | .inl a :: r => (match t with
      | .int => if (0 ≤ a ∧ a ≤ 10000) ∧ bokW w.1 L st = true then bgo (pc + 2) L (aR w.1.length 0 :: r) (w.1 ++ [.inl (0, a.toNat, [])], w.2 + a.toNat) else none
      | .long => if (0 ≤ a ∧ a ≤ 10000) ∧ bokW w.1 L st = true then bgo (pc + 2) L (aR w.1.length 0 :: r) (w.1 ++ [.inl (1, a.toNat, [])], w.2 + a.toNat) else none
      | .boolean => if (0 ≤ a ∧ a ≤ 10000) ∧ bokW w.1 L st = true then bgo (pc + 2) L (aR w.1.length 0 :: r) (w.1 ++ [.inl (2, a.toNat, [])], w.2 + a.toNat) else none
      | _ => none)
    | _ => none)
  | .anewarray x => (match st, bsi (mC y) (x + 100000) with
    | .inl a :: r, some (1, T, _, _) => if (0 ≤ a ∧ a ≤ 10000) ∧ bokW w.1 L st = true then bgo (pc + 3) L (aR w.1.length 0 :: r) (w.1 ++ [.inl (T, a.toNat, [])], w.2 + a.toNat) else none
    | _, _ => none)
  | .new x => (match bsi (mC y) x with
    | some (0, c, _, _) => if bokW w.1 L st = true then bgo (pc + 3) L (aR w.1.length 0 :: st) (w.1 ++ [.inr (c, dfl c)], w.2 + cS c) else none
    | _ => none)
  | .invokespecial x => (match bsi (mC y) x with
    | some (2, _, _, _) => (match st with | .inr (.inr (.inl (some _))) :: r => if cats r ≤ 8 ∧ L.length = mL y ∧ 1 ≤ bFr y ∧ 20 ≤ bWd y then bgo (pc + 3) L r w else none | _ => none)
    | some (3, y', _, _) => bcl y y' pc L w (bnp y') st
    | some (4, y', _, _) => bcl y y' pc L w (bnp y') st
    | _ => none)
  | _ => none
def bend (y pc : Nat) (st : List AV) : Bool := match bfe y pc with
  | some .return_ => st.isEmpty
  | some _ => false
  | none => y == 213 && pc == 18
def brun : Nat → Nat → bG → Option bG
  | 0, _, _ => none
  | n + 1, y, (pc, L, st, w) => if bend y pc st = true then some (pc, L, st, w) else match bfe y pc with
    | none => none
    | some i => match bst y i pc L st w with
      | none => none
      | some (.inl g) => if w.1.length ≤ g.2.2.2.1.length ∧ w.2 ≤ g.2.2.2.2 then brun n y g else none
      | some (.inr (y', as, (pc', L', r, _))) => match brun n y' (0, lay0 y' as, [], w) with
        | none => none
        | some (_, _, _, w2) => brun n y (pc', L', r, w2)
/-! the world stays well formed -/
theorem bok_mono {n n' : Nat} (h : n ≤ n') {v : AV} (hv : bok n v = true) : bok n' v = true := by
  rcases v with a | x | q | u
  · rfl
  · rfl
  · cases q with
    | none => rfl
    | some q =>
      have hv : q.1 < n := of_decide_eq_true hv
      exact decide_eq_true (show q.1 < n' by omega)
  · rfl
theorem bokE_mono {n n' : Nat} (h : n ≤ n') {e : bE} (he : bokE n e = true) : bokE n' e = true := by
  rcases e with q | q
  · have he : q.2.2.all (fun r => bok n r.2) = true := he
    show q.2.2.all (fun r => bok n' r.2) = true
    rw [List.all_eq_true] at he ⊢
    exact fun r hr => bok_mono h (he r hr)
  · have he : q.2.all (bok n) = true := he
    show q.2.all (bok n') = true
    rw [List.all_eq_true] at he ⊢
    exact fun r hr => bok_mono h (he r hr)
theorem bokV_at {w : List bE} (h : bokV w) {k : Nat} {e : bE} (hk : w[k]? = some e) : bokE w.length e = true := List.all_eq_true.mp h e (List.mem_of_getElem? hk)
theorem bokV_push {w : List bE} (h : bokV w) {e : bE} (he : bokE 0 e = true) : bokV (w ++ [e]) := by
  unfold bokV at h ⊢
  rw [List.all_eq_true] at h ⊢
  intro x hx
  rw [List.length_append]
  rcases List.mem_append.mp hx with hx | hx
  · exact bokE_mono (by omega) (h x hx)
  · rw [List.mem_singleton.mp hx]
    exact bokE_mono (by omega) he
theorem bokV_set {w : List bE} (h : bokV w) (k : Nat) {e : bE} (he : bokE w.length e = true) : bokV (w.set k e) := by
  unfold bokV at h ⊢
  rw [List.all_eq_true] at h ⊢
  intro x hx
  rw [List.length_set]
  rcases List.mem_or_eq_of_mem_set hx with hx | hx
  · exact h x hx
  · rw [hx]; exact he
theorem dfl_bok (c : Nat) : (dfl c).all (bok 0) = true := by
  unfold dfl
  rw [List.all_map, List.all_eq_true]
  intro k _
  show bok 0 (if sK c k = 2 then aN else aI 0) = true
  split <;> rfl
theorem bst_okV {y pc : Nat} {i : Instr} {L st : List AV} {w : bD} {g : bG} (hs : bst y i pc L st w = some (.inl g)) (h : bokV w.1) : bokV g.2.2.2.1 := by
  cases i
  case putfield x =>
    simp only [bst, bgo] at hs
    split at hs
    · split at hs
      · rename_i c' k o h1 h2
        split at hs
        · rename_i hc
          cases hs
          refine bokV_set h _ ?_
          have ho := bokV_at h h2
          have ho : o.2.all (bok w.1.length) = true := ho
          show (o.2.set k _).all (bok w.1.length) = true
          rw [List.all_eq_true] at ho ⊢
          intro x hx
          rcases List.mem_or_eq_of_mem_set hx with hx | hx
          · exact ho x hx
          · rw [hx]; exact hc.2.2.2.2
        · cases hs
      · cases hs
    · cases hs
  case iastore =>
    simp only [bst, bgo] at hs
    split at hs
    · split at hs
      · rename_i o h1
        split at hs
        · rename_i hc
          cases hs
          refine bokV_set h _ ?_
          have ho := bokV_at h h1
          have ho : o.2.2.all (fun r => bok w.1.length r.2) = true := ho
          show ((_, _) :: o.2.2).all (fun r => bok w.1.length r.2) = true
          rw [List.all_cons, ho]
          rfl
        · cases hs
      · cases hs
    · cases hs
  case aastore =>
    simp only [bst, bgo] at hs
    split at hs
    · split at hs
      · rename_i o1 o2 h1 h2
        split at hs
        · rename_i hc
          cases hs
          refine bokV_set h _ ?_
          have ho := bokV_at h h1
          have ho : o1.2.2.all (fun r => bok w.1.length r.2) = true := ho
          show ((_, _) :: o1.2.2).all (fun r => bok w.1.length r.2) = true
          rw [List.all_cons, ho, Bool.and_true]
          exact decide_eq_true hc.2.2
        · cases hs
      · cases hs
    · cases hs
  case newarray t =>
    simp only [bst, bgo] at hs
    repeat' (first | (cases hs; done) | (cases hs; exact bokV_push h rfl) | (split at hs))
  case anewarray x =>
    simp only [bst, bgo] at hs
    repeat' (first | (cases hs; done) | (cases hs; exact bokV_push h rfl) | (split at hs))
  case new x =>
    simp only [bst, bgo] at hs
    repeat' (first | (cases hs; done) | (cases hs; exact bokV_push h (dfl_bok _)) | (split at hs))
  case invokespecial x =>
    simp only [bst, bgo, bcl] at hs
    repeat' (first | (cases hs; done) | (cases hs; exact h) | (split at hs))
  case if_icmp k off =>
    cases k <;> (simp only [bst, bgo] at hs; repeat' (first | (cases hs; done) | (cases hs; exact h) | (split at hs)))
  all_goals
    simp only [bst, bgo] at hs
    repeat' (first | (cases hs; done) | (cases hs; exact h) | (split at hs))
theorem brun_okV : ∀ (k y pc : Nat) (L st : List AV) (w : bD) (g : bG), brun k y (pc, L, st, w) = some g → bokV w.1 → bokV g.2.2.2.1 := by
  intro k
  induction k with
  | zero => intro y pc L st w g h; cases h
  | succ k ih =>
    intro y pc L st w g h hV
    rw [brun] at h
    split at h
    · cases h; exact hV
    · split at h
      · cases h
      · split at h
        · cases h
        · rename_i g1 hs
          split at h
          · obtain ⟨pc1, L1, st1, w1⟩ := g1
            exact ih y pc1 L1 st1 w1 g h (bst_okV hs hV)
          · cases h
        · split at h
          · cases h
          · rename_i b1 b2 b3 w2 h1
            exact ih _ _ _ _ _ _ h (ih _ _ _ _ _ _ h1 hV)
