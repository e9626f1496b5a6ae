/-! the maker is sound: arrays, calls, runs -/
theorem bokW_pop {w : List bE} {L r : List AV} {v : AV} (h : bokW w L (v :: r) = true) : bokW w L r = true := by
  obtain ⟨h2, h3⟩ := bokW_1 h
  rw [List.all_cons, Bool.and_eq_true] at h3
  unfold bokW
  rw [h2, h3.2]
  rfl
section MK3
variable {p : Program} {l : Launch} {e : Env} {R : Room} {s : State} {m : MethodId} {args : Array Value} {below : List Frame} {meth : Method} {c : Code} {Q : State → Prop}
variable {D : va_G} {cy : Nat → ClassId} {base c0 s0 : Nat} {f0 : Nat → Nat} {vx : Option Value} {y pc : Nat} {L st : List AV} {w : bD} {g : bG}
theorem ra_prim {U : State} {cA cB : ClassId} {ty : FieldType} (h1 : va_RA U cA ty) (h2 : va_RA U cB ty) : cA = cB := by
  cases ty with
  | object C =>
    obtain ⟨_, _, _, _, _, a1⟩ := h1
    obtain ⟨_, _, _, _, _, a2⟩ := h2
    exact Option.some.inj (a1.symm.trans a2)
  | _ => exact Option.some.inj (h1.symm.trans h2)
theorem bo_newa {T : Nat} {a : Int} {t : ArrayType} {ty : FieldType} {r : List AV} (v : Nat → vp_A) (C : BX D cy base y p R s m args meth c) (hf : bfe y pc = some (.newarray t)) (hty : newarray.typeOf t = ty) (hac : Cond.arrayClass ty ∈ TB) (hT : (tysOf cy)[T]? = some (cy T, ty)) (hcell : ∀ f n, bM f cy (.inl (T, n, [])) = .inl (cy T, v n)) (hv : ∀ (n : Nat) (cA : ClassId), vp_cell cA (v n) = arrV cA n (fun _ => defaultValue ty)) (hcb : componentBytes ty ≤ 8) (ha : 0 ≤ a ∧ a ≤ 10000) (hV : bokV w.1) (hok : bokW w.1 L (aI a :: r) = true) (h0 : c0 ≤ w.1.length ∧ s0 ≤ w.2) (hr : w.1.length + 1 - c0 ≤ R.cells ∧ w.2 + a.toNat - s0 ≤ R.slots) (K : BNg D cy base c0 s0 f0 vx p l e R s m args below meth c Q (pc + 2) L (aR w.1.length 0 :: r) (w.1 ++ [.inl (T, a.toNat, [])], w.2 + a.toNat)) : BNg D cy base c0 s0 f0 vx p l e R s m args below meth c Q pc L (aI a :: r) w := by
  obtain ⟨hx, hb, hml, hown, hts, hK, hN, hR, hi, hbs⟩ := C
  intro f hqf H locs ls hP hD hS hl hX
  have hz : okZ a := ⟨by omega, by omega⟩
  have hbytes : a.toNat * componentBytes ty ≤ 536870912 := Nat.le_trans (Nat.mul_le_mul (show a.toNat ≤ 10000 by omega) hcb) (Nat.le_of_ble_eq_true rfl)
  refine va_newa (ty := ty) (a0 := v a.toNat) (N' := a.toNat) hx hb (by rw [hty]; exact hts _ hac) hty hK hP hD hS (fun q hq => Nat.le_trans hbs hq) (fun cA => hv a.toNat cA) (fun q => o32_in (n := a.toNat + 1) hz ha.1 (by omega) (Or.inl q)) (o32_cl hz) hbytes (by dsimp only; omega) (by dsimp only; omega) (bfe_dec hf rfl) (fun q cA H1 hK1 hP1 hD1 hS1 => ?_)
  have e5 : (tysOf cy ++ [(cA, ty)])[5]? = some (cA, ty) := rfl
  have ec : cA = cy T := ra_prim (hK1.2 5 _ e5).2 (hK.2 T _ hT).2
  rw [ec] at hP1 hD1
  exact bpush hV (bokW_pop hok) h0 K hqf hl hX (fun f' => hcell f' _) hP1 hD1 hS1
theorem bo_anewa {T p1 p2 : Nat} {x : Nat} {a : Int} {r : List AV} (C : BX D cy base y p R s m args meth c) (hf : bfe y pc = some (.anewarray x)) (hs : bsi (mC y) (x + 100000) = some (1, T, p1, p2)) (ha : 0 ≤ a ∧ a ≤ 10000) (hV : bokV w.1) (hok : bokW w.1 L (aI a :: r) = true) (h0 : c0 ≤ w.1.length ∧ s0 ≤ w.2) (hr : w.1.length + 1 - c0 ≤ R.cells ∧ w.2 + a.toNat - s0 ≤ R.slots) (K : BNg D cy base c0 s0 f0 vx p l e R s m args below meth c Q (pc + 3) L (aR w.1.length 0 :: r) (w.1 ++ [.inl (T, a.toNat, [])], w.2 + a.toNat)) : BNg D cy base c0 s0 f0 vx p l e R s m args below meth c Q pc L (aI a :: r) w := by
  obtain ⟨hx, hb, hml, hown, hts, hK, hN, hR, hi, hbs⟩ := C
  intro f hqf H locs ls hP hD hS hl hX
  have hz : okZ a := ⟨by omega, by omega⟩
  have hw := bsi_ok hs
  simp only [bwk, Bool.or_eq_true, Bool.and_eq_true, decide_eq_true_eq, Nat.add_sub_cancel] at hw
  have key : ∀ C0 : String, Cond.classLink (cN (mC y)) x C0 ∈ TB → va_AO C0 s → (tysOf cy)[T]? = some (cy T, .object C0) → (T = 3 ∨ T = 4) → W p l e R s m args below meth c H locs (w.1.length - c0) (w.2 - s0) Q (F0 m pc ls (.int (Int32.ofInt a) :: r.map (cv (bad f)))) := fun C0 k1 k2 k3 k4 => by
    refine va_newq (C := C0) (N' := a.toNat) hx hb hown (hts _ k1) k2 hK hP hD hS (fun q hq => Nat.le_trans hbs hq) (fun q => o32_in (n := a.toNat + 1) hz ha.1 (by omega) (Or.inl q)) (o32_cl hz) (by omega) (by omega) (by omega) (bfe_dec hf rfl) (fun q cA H1 hK1 hP1 hD1 hS1 => ?_)
    have e5 : (tysOf cy ++ [(cA, .object C0)])[5]? = some (cA, .object C0) := rfl
    have ec : cA = cy T := ra_prim (hK1.2 5 _ e5).2 (hK.2 T _ k3).2
    rw [ec] at hP1 hD1
    refine bpush hV (bokW_pop hok) h0 K hqf hl hX (fun f' => ?_) hP1 hD1 hS1
    show bMa f' cy T a.toNat [] = _
    unfold bMa
    rw [if_neg (by omega), if_neg (by omega), if_neg (by omega)]
    rfl
  rcases hw with ⟨rfl, hw⟩ | ⟨rfl, hw⟩
  · exact key (cN 5) (inTB (wP_mem hw) rfl) hN.1 rfl (Or.inl rfl)
  · exact key (cN 3) (inTB (wP_mem hw) rfl) hN.2.1 rfl (Or.inr rfl)
def bmP (D : va_G) (cy : Nat → ClassId) (base : Nat) (f : Nat → Nat) (w : List bE) (as : List AV) : Array Value → State → Prop := va_Pc (as.map (cv (bad f))) (fun U => va_P D vwCl (bWS f cy w) U.heap ∧ va_K D vwCl (tysOf cy) U ∧ (va_AO (cN 5) U ∧ va_AO (cN 3) U ∧ BNW U) ∧ base ≤ U.heap.size)
abbrev bmQ (D : va_G) (cy : Nat → ClassId) (base : Nat) (f : Nat → Nat) (w w' : List bE) : Array Value → State → Outcome → State → Prop := va_Qv (S := Nat → Nat) (fun f' => ∀ k, k < w.length → f' k = f k) (fun f' t => va_P D vwCl (bWS f' cy w') t.heap ∧ va_D (bA base) (bWS f' cy w')) (bA base)
def bmR (y : Nat) (w w' : bD) : Room := { frames := bFr y, cells := w'.1.length - w.1.length, slots := w'.2 - w.2, locals := bWd y }
theorem bmP_blind {f : Nat → Nat} {w : List bE} {as : List AV} : FrameBlind (bmP D cy base f w as) := fun a U g mk q => by
  obtain ⟨q0, qP, qK, ⟨q1, q2, q3⟩, qb⟩ := q
  exact ⟨q0, qP, va_K.moved (u := U) (U := U.calling g mk a) (Vm.Alike.refl U.vm) qK, ⟨va_AO.moved (u := U) (U := U.calling g mk a) (Vm.Alike.refl U.vm) q1, va_AO.moved (u := U) (U := U.calling g mk a) (Vm.Alike.refl U.vm) q2, BNW.same (s := U) (U := U.calling g mk a) rfl q3⟩, qb⟩
abbrev BMet (l : Launch) (D : va_G) (cy : Nat → ClassId) (base y : Nat) (f : Nat → Nat) (w w' : bD) (as : List AV) : Prop := Met l (mNm y) (mWs y) (bmR y w w') (bmP D cy base f w.1 as) (bmQ D cy base f w.1 w'.1) (w'.1.length - w.1.length) (w'.2 - w.2) (bA base)
theorem bo_call {x y' n kd p1 p2 : Nat} {q : Nat × Int} {r : List AV} {w2 : bD} (C : BX D cy base y p R s m args meth c) (hf : bfe y pc = some (.invokespecial x)) (hs : bsi (mC y) x = some (kd, y', p1, p2)) (hkd : kd = 3 ∨ kd = 4) (hd : st.drop n = aQ (some q) :: r)
    (hk : n ≤ st.length ∧ L.length = mL y ∧ bFr y' + 1 ≤ bFr y ∧ 8 + (mL y' + 11) + bWd y' ≤ bWd y ∧ cats r ≤ 8 ∧ (lay (aR q.1 q.2 :: (st.take n).reverse)).length ≤ mL y' ∧ (parseMethodDescriptor (mNm y').desc).map (fun d => d.parameters.length) = some n ∧ bokW w.1 L st = true) (h0 : c0 ≤ w.1.length ∧ s0 ≤ w.2) (hw2 : w.1.length ≤ w2.1.length ∧ w.2 ≤ w2.2) (hr : w2.1.length - c0 ≤ R.cells ∧ w2.2 - s0 ≤ R.slots)
    (hM : ∀ f, va_D (bA base) (bWS f cy w.1) → BMet l D cy base y' f w w2 (aR q.1 q.2 :: (st.take n).reverse)) (K : BNg D cy base c0 s0 f0 vx p l e R s m args below meth c Q (pc + 3) L r w2) : BNg D cy base c0 s0 f0 vx p l e R s m args below meth c Q pc L st w := by
  obtain ⟨hx, hb, hml, hown, hts, hK, hN, hR, hi, hbs⟩ := C
  intro f hqf H locs ls hP hD hS hl hX
  obtain ⟨o0, o1, o2, o3, o4, o5, o6, o7⟩ := hk
  obtain ⟨k2, k3⟩ := bokW_1 o7
  have hw := bsi_ok hs
  have est : st.map (cv (bad f)) = ((st.take n).reverse.map (cv (bad f))).reverse ++ .ref (f q.1) :: r.map (cv (bad f)) := by
    have h1 := List.take_append_drop n st
    rw [hd] at h1
    rw [List.map_reverse, List.reverse_reverse]
    have h2 : st.map (cv (bad f)) = ((st.take n) ++ (aQ (some q) :: r)).map (cv (bad f)) := by rw [h1]
    rw [h2, List.map_append]
    rfl
  have k3r : r.all (bok w.1.length) = true := by
    rw [List.all_eq_true] at k3 ⊢
    intro v hv
    refine k3 v (List.mem_of_mem_drop (i := n) ?_)
    rw [hd]
    exact List.mem_cons_of_mem _ hv
  have hlen : ((st.take n).reverse.map (cv (bad f))).length = n := by
    rw [List.length_map, List.length_reverse, List.length_take]
    omega
  have hpre : ∀ U : State, U.heap = H → s.WarmedH U.vm → bmP D cy base f w.1 (aR q.1 q.2 :: (st.take n).reverse) (Value.ref (f q.1) :: (st.take n).reverse.map (cv (bad f))).toArray U := fun U hU hW => ⟨rfl, by rw [hU]; exact hP, va_K.moved hW.alike hK, ⟨va_AO.moved hW.alike hN.1, va_AO.moved hW.alike hN.2.1, BNW.moved hW hN.2.2⟩, by rw [hU]; exact Nat.le_trans hbs hS.1⟩
  have kk : ∀ (f' : Nat → Nat) (t : State) (H1 : Heap) (locs1 : List Loc), t.heap = H1 → s.vm.Alike t.vm → (∀ k, k < w.1.length → f' k = f k) → (va_P D vwCl (bWS f' cy w2.1) t.heap ∧ va_D (bA base) (bWS f' cy w2.1)) → H.size ≤ H1.size → (∀ q : Nat, q < H.size → ¬ bA base q → H1[q]? = H[q]?) → va_S (bA base) s.heap H1 locs1 → W p l e R s m args below meth c H1 locs1 (w.1.length - c0 + (w2.1.length - w.1.length)) (w.2 - s0 + (w2.2 - w.2)) Q (F0 m (pc + 3) ls (r.map (cv (bad f)))) := fun f' t H1 locs1 ht _ hp hB _ _ hS1 => by
    have := K f' (fun k hk => (hp k (by omega)).trans (hqf k hk)) H1 locs1 ls (by rw [← ht]; exact hB.1) hB.2 hS1 (LR_ext hp k2 hl) hX
    dsimp only at this
    rw [cvs_ext hp k3r, show w2.1.length - c0 = w.1.length - c0 + (w2.1.length - w.1.length) by omega, show w2.2 - s0 = w.2 - s0 + (w2.2 - w.2) by omega] at this
    exact this
  have hcr : w.1.length - c0 + (w2.1.length - w.1.length) ≤ R.cells ∧ w.2 - s0 + (w2.2 - w.2) ≤ R.slots := by omega
  rcases hkd with rfl | rfl
  · simp only [bwk, Bool.and_eq_true, decide_eq_true_eq] at hw
    obtain ⟨⟨⟨s1, s2⟩, s3⟩, s4⟩ := hw
    obtain ⟨n1, n2, n3, n4⟩ := mNm_ok s1
    exact va_callv (va_runI (As := (st.take n).reverse.map (cv (bad f))) (n := n) ⟨hx, hb, hml, hown, hts⟩ (hM f hD) (cwI n hts (TB_in (mWs_in s1)) (by unfold mWs; rw [s2.2]) rfl rfl (hts _ (ini_in n4)) (hts _ (inTB (wP_mem s3) rfl)) (hts _ (inTB (wP_mem s4) rfl)) s2.1 ⟨n2, n3, o6⟩ ⟨Nat.le_trans o2 hR.1, Nat.le_trans o3 hR.2⟩) ⟨bmP_blind, hpre⟩ rfl hlen (hl.1.trans o1) est (lv_room (Nat.le_trans cats_le o4)) (bfe_dec hf rfl) hcr) hS (fun q _ h => h) (fun q h => h) kk
  · simp only [bwk, Bool.and_eq_true, decide_eq_true_eq] at hw
    obtain ⟨⟨⟨s1, s2⟩, s3⟩, s4⟩ := hw
    obtain ⟨n1, n2, n3, n4⟩ := mNm_ok s1
    exact va_callv (va_runIN (As := (st.take n).reverse.map (cv (bad f))) (n := n) ⟨hx, hb, hml, hown, hts⟩ (hM f hD) ⟨va_cnB n hts (TB_in (mWs_in s1)) (by unfold mWs; rw [s2.2]) rfl rfl (hN.2.2 _ _ _ _ _ hs) (hts _ (ini_in n4)) ⟨n2, n3, o6⟩ ⟨Nat.le_trans o2 hR.1, Nat.le_trans o3 hR.2⟩, s2.1, hts _ (inTB (wP_mem s4) rfl)⟩ ⟨bmP_blind, hpre⟩ rfl hlen (hl.1.trans o1) est (lv_room (Nat.le_trans cats_le o4)) (bfe_dec hf rfl) hcr) hS (fun q _ h => h) (fun q h => h) kk
end MK3
