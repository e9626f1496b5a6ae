/-! the maker is sound -/
/-- what is in the first local, where that is to be known -/
def Xl (vx : Option Value) (ls : Array Slot) : Prop := match vx with
  | none => True
  | some v => ls[0]? = some (.val v) ∧ v.category = 1
def lvx (vx : Option Value) : List (Nat × Value) := match vx with
  | none => []
  | some v => [(0, v)]
theorem lvx_has {f : Nat → Int → Nat} {L : List AV} {ls : Array Slot} {vx : Option Value} (h : LR f L ls) (hX : Xl vx ls) : lv_has ls L.length (lvx vx ++ lvl f L) := by
  have h1 := lvl_has h
  refine ⟨h1.1, h1.2.1, fun q hq => ?_⟩
  rcases List.mem_append.mp hq with hq | hq
  · cases vx with
    | none => cases hq
    | some v =>
      rw [List.mem_singleton.mp hq]
      exact hX.1
  · exact h1.2.2 q hq
theorem lvx_tl {ls : Array Slot} {n i : Nat} {v : Value} {vx : Option Value} {l : List (Nat × Value)} (h : lv_has ls n ((i, v) :: (lvx vx ++ l).filter (fun q => !(q.1 == i) && !(q.1 + 1 == i && q.2.category == 2)))) : lv_has ls n ((i, v) :: l.filter (fun q => !(q.1 == i) && !(q.1 + 1 == i && q.2.category == 2))) := by
  refine ⟨h.1, h.2.1, fun q hq => h.2.2 q ?_⟩
  rcases List.mem_cons.mp hq with hq | hq
  · exact hq ▸ List.mem_cons_self
  · rw [List.filter_append]
    exact List.mem_cons_of_mem _ (List.mem_append_right _ hq)
theorem lvx_hd {ls : Array Slot} {n i : Nat} {v : Value} {vx : Option Value} {l : List (Nat × Value)} {ls0 : Array Slot} (h : lv_has ls n ((i, v) :: (lvx vx ++ l).filter (fun q => !(q.1 == i) && !(q.1 + 1 == i && q.2.category == 2)))) (hi : i ≠ 0) (hX : Xl vx ls0) : Xl vx ls := by
  cases vx with
  | none => trivial
  | some v0 =>
    refine ⟨h.2.2 (0, v0) (List.mem_cons_of_mem _ (List.mem_filter.mpr ⟨List.mem_append_left _ List.mem_cons_self, ?_⟩)), hX.2⟩
    have e1 : (0 == i) = false := beq_eq_false_iff_ne.mpr (fun z => hi z.symm)
    have e2 : (v0.category == 2) = false := by rw [hX.2]; rfl
    show (!(0 == i) && !(0 + 1 == i && v0.category == 2)) = true
    rw [e1, e2, Bool.and_false]
    rfl
section MK
variable {p : Program} {l : Launch} {e : Env} {R : Room} {s : State} {m : MethodId} {args : Array Value} {below : List Frame} {meth : Method} {c : Code} {Q : State → Prop}
variable {D : va_G} {cy : Nat → ClassId} {base c0 s0 : Nat} {f0 : Nat → Nat} {vx : Option Value} {y pc : Nat} {L st : List AV} {w : bD} {g : bG}
def BNW (U : State) : Prop := ∀ o x y' p1 p2, bsi o x = some (4, y', p1, p2) → va_Nw (.methodLinkNest (cN o) x (mNm y') "UncrossedBook") U
theorem BNW.moved {s U : State} (hW : s.WarmedH U.vm) (h : BNW s) : BNW U := fun o x y' p1 p2 hs => va_Nw.warmM hW (h o x y' p1 p2 hs)
theorem BNW.same {s U : State} (hv : s.vm = U.vm) (h : BNW s) : BNW U := fun o x y' p1 p2 hs => va_Nw.same rfl hv (h o x y' p1 p2 hs)
def bA (base : Nat) : Nat → Prop := fun q => base ≤ q
def BX (D : va_G) (cy : Nat → ClassId) (base y : Nat) (p : Program) (R : Room) (s : State) (m : MethodId) (args : Array Value) (meth : Method) (c : Code) : Prop :=
  p.tables.exec = Jvm.exec ∧ c.code = mCd y ∧ c.maxLocals = mL y ∧ s.vm.findClass (cN (mC y)) = some m.cls ∧ (∀ w ∈ TB, w.before args s = true) ∧ va_K D vwCl (tysOf cy) s ∧ (va_AO (cN 5) s ∧ va_AO (cN 3) s ∧ BNW s) ∧ (bFr y ≤ R.frames ∧ bWd y ≤ R.locals) ∧ (y = 213 ∨ meth.name = "<init>") ∧ base ≤ s.heap.size
def BN (D : va_G) (cy : Nat → ClassId) (base c0 s0 : Nat) (f0 : Nat → Nat) (vx : Option Value) (p : Program) (l : Launch) (e : Env) (R : Room) (s : State) (m : MethodId) (args : Array Value) (below : List Frame) (meth : Method) (c : Code) (Q : State → Prop) (g : bG) : Prop :=
  ∀ (f : Nat → Nat), (∀ k, k < c0 → f k = f0 k) → ∀ (H : Heap) (locs : List Loc) (ls : Array Slot), va_P D vwCl (bWS f cy g.2.2.2.1) H → va_D (bA base) (bWS f cy g.2.2.2.1) → va_S (bA base) s.heap H locs → LR (bad f) g.2.1 ls → Xl vx ls → W p l e R s m args below meth c H locs (g.2.2.2.1.length - c0) (g.2.2.2.2 - s0) Q (F0 m g.1 ls (g.2.2.1.map (cv (bad f))))
abbrev BNg (D : va_G) (cy : Nat → ClassId) (base c0 s0 : Nat) (f0 : Nat → Nat) (vx : Option Value) (p : Program) (l : Launch) (e : Env) (R : Room) (s : State) (m : MethodId) (args : Array Value) (below : List Frame) (meth : Method) (c : Code) (Q : State → Prop) (pc : Nat) (L st : List AV) (w : bD) : Prop := BN D cy base c0 s0 f0 vx p l e R s m args below meth c Q (pc, L, st, w)
theorem bo_aload_n {k : Fin 4} {q : Nat × Int} (C : BX D cy base y p R s m args meth c) (hf : bfe y pc = some (.aload_n k)) (hq : L[(k : Nat)]? = some (aQ (some q))) (K : BNg D cy base c0 s0 f0 vx p l e R s m args below meth c Q (pc + 1) L (aQ (some q) :: st) w) : BNg D cy base c0 s0 f0 vx p l e R s m args below meth c Q pc L st w := by
  obtain ⟨hx, hb, hml, hown, hts, hK, hN, hR, hi, hbs⟩ := C
  intro f hqf H locs ls hP hD hS hl hX
  exact lv_aload_n hx hb (bfe_dec hf rfl) rfl (hl.2.2 _ _ hq (fun z => by cases z)) (K f hqf H locs ls hP hD hS hl hX)
theorem bo_iload_n {k : Fin 4} {v : Int} (C : BX D cy base y p R s m args meth c) (hf : bfe y pc = some (.iload_n k)) (hq : L[(k : Nat)]? = some (aI v)) (K : BNg D cy base c0 s0 f0 vx p l e R s m args below meth c Q (pc + 1) L (aI v :: st) w) : BNg D cy base c0 s0 f0 vx p l e R s m args below meth c Q pc L st w := by
  obtain ⟨hx, hb, hml, hown, hts, hK, hN, hR, hi, hbs⟩ := C
  intro f hqf H locs ls hP hD hS hl hX
  exact lv_iload_n hx hb (bfe_dec hf rfl) rfl (hl.2.2 _ _ hq (fun z => by cases z)) (K f hqf H locs ls hP hD hS hl hX)
theorem bo_istore_n {k : Fin 4} {v : Int} {r : List AV} (C : BX D cy base y p R s m args meth c) (hf : bfe y pc = some (.istore_n k)) (hk : (k : Nat) < L.length ∧ okSt L k = true) (hk0 : (k : Nat) ≠ 0) (K : BNg D cy base c0 s0 f0 vx p l e R s m args below meth c Q (pc + 1) (L.set k (aI v)) r w) : BNg D cy base c0 s0 f0 vx p l e R s m args below meth c Q pc L (aI v :: r) w := by
  obtain ⟨hx, hb, hml, hown, hts, hK, hN, hR, hi, hbs⟩ := C
  intro f hqf H locs ls hP hD hS hl hX
  exact lv_istore_n hx hb (bfe_dec hf rfl) rfl (lvx_has hl hX) hk.1 rfl (fun ls' h' => K f hqf H locs ls' hP hD hS (LR_set hk.2 hk.1 (lvx_tl h')) (lvx_hd h' hk0 hX))
theorem bo_astore_n {k : Fin 4} {q : Nat × Int} {r : List AV} (C : BX D cy base y p R s m args meth c) (hf : bfe y pc = some (.astore_n k)) (hk : (k : Nat) < L.length ∧ okSt L k = true) (hk0 : (k : Nat) ≠ 0) (K : BNg D cy base c0 s0 f0 vx p l e R s m args below meth c Q (pc + 1) (L.set k (aQ (some q))) r w) : BNg D cy base c0 s0 f0 vx p l e R s m args below meth c Q pc L (aQ (some q) :: r) w := by
  obtain ⟨hx, hb, hml, hown, hts, hK, hN, hR, hi, hbs⟩ := C
  intro f hqf H locs ls hP hD hS hl hX
  exact lv_astore_n hx hb (bfe_dec hf rfl) rfl (lvx_has hl hX) hk.1 rfl (fun ls' h' => K f hqf H locs ls' hP hD hS (LR_set (v := aQ (some q)) hk.2 hk.1 (lvx_tl h')) (lvx_hd h' hk0 hX))
theorem bo_iinc {k : Nat} {z v : Int} (C : BX D cy base y p R s m args meth c) (hf : bfe y pc = some (.iinc k z)) (hv : L[k]? = some (aI v)) (hk : k < L.length ∧ okSt L k = true) (hk0 : k ≠ 0) (K : BNg D cy base c0 s0 f0 vx p l e R s m args below meth c Q (pc + 3) (L.set k (aI (wr (v + z)))) st w) : BNg D cy base c0 s0 f0 vx p l e R s m args below meth c Q pc L st w := by
  obtain ⟨hx, hb, hml, hown, hts, hK, hN, hR, hi, hbs⟩ := C
  intro f hqf H locs ls hP hD hS hl hX
  have hm : (k, cv (bad f) (aI v)) ∈ lvx vx ++ lvl (bad f) L := List.mem_append_right _ (lvl_mem (ad := bad f) hv (fun z => by cases z))
  obtain ⟨j, hj⟩ := List.getElem?_of_mem hm
  have e1 : Value.int (Int32.ofInt v + Int32.ofInt z) = cv (bad f) (aI (wr (v + z))) := by
    show _ = Value.int (Int32.ofInt (wr (v + z)))
    rw [o32_wr, Int32.ofInt_add]
  refine lv_iinc (v := Int32.ofInt v + Int32.ofInt z) hx hb (bfe_dec hf rfl) (lvx_has hl hX) hj rfl hk.1 rfl (fun ls' h' => K f hqf H locs ls' hP hD hS (LR_set hk.2 hk.1 ?_) (lvx_hd h' hk0 hX))
  rw [← e1]
  exact lvx_tl h'
theorem bo_iconst {z : Int} (C : BX D cy base y p R s m args meth c) (hf : bfe y pc = some (.iconst z)) (K : BNg D cy base c0 s0 f0 vx p l e R s m args below meth c Q (pc + 1) L (aI z :: st) w) : BNg D cy base c0 s0 f0 vx p l e R s m args below meth c Q pc L st w := by
  obtain ⟨hx, hb, hml, hown, hts, hK, hN, hR, hi, hbs⟩ := C
  intro f hqf H locs ls hP hD hS hl hX
  exact lv_iconst hx hb (bfe_dec hf rfl) rfl (K f hqf H locs ls hP hD hS hl hX)
theorem bo_bipush {z : Int} (C : BX D cy base y p R s m args meth c) (hf : bfe y pc = some (.bipush z)) (hz : -128 ≤ z ∧ z < 128) (K : BNg D cy base c0 s0 f0 vx p l e R s m args below meth c Q (pc + 2) L (aI z :: st) w) : BNg D cy base c0 s0 f0 vx p l e R s m args below meth c Q pc L st w := by
  obtain ⟨hx, hb, hml, hown, hts, hK, hN, hR, hi, hbs⟩ := C
  intro f hqf H locs ls hP hD hS hl hX
  refine lv_bipush (v := Int32.ofInt z) hx hb (bfe_dec hf rfl) ?_ (K f hqf H locs ls hP hD hS hl hX)
  rw [← Int32.toInt_inj, Int8.toInt_toInt32, Int8.toInt_ofInt_of_le hz.1 hz.2, o32_id ⟨by omega, by omega⟩]
theorem bo_sipush {z : Int} (C : BX D cy base y p R s m args meth c) (hf : bfe y pc = some (.sipush z)) (hz : -32768 ≤ z ∧ z < 32768) (K : BNg D cy base c0 s0 f0 vx p l e R s m args below meth c Q (pc + 3) L (aI z :: st) w) : BNg D cy base c0 s0 f0 vx p l e R s m args below meth c Q pc L st w := by
  obtain ⟨hx, hb, hml, hown, hts, hK, hN, hR, hi, hbs⟩ := C
  intro f hqf H locs ls hP hD hS hl hX
  refine lv_sipush (v := Int32.ofInt z) hx hb (bfe_dec hf rfl) ?_ (K f hqf H locs ls hP hD hS hl hX)
  rw [← Int32.toInt_inj, Int16.toInt_toInt32, Int16.toInt_ofInt_of_le hz.1 hz.2, o32_id ⟨by omega, by omega⟩]
theorem bo_dup {v : AV} {r : List AV} (C : BX D cy base y p R s m args meth c) (hf : bfe y pc = some .dup) (hc : cat v = 1) (K : BNg D cy base c0 s0 f0 vx p l e R s m args below meth c Q (pc + 1) L (v :: v :: r) w) : BNg D cy base c0 s0 f0 vx p l e R s m args below meth c Q pc L (v :: r) w := by
  obtain ⟨hx, hb, hml, hown, hts, hK, hN, hR, hi, hbs⟩ := C
  intro f hqf H locs ls hP hD hS hl hX
  exact lv_dup hx hb (bfe_dec hf rfl) (by rw [cv_cat (bad f) (by rw [hc]; decide)]; exact hc) (K f hqf H locs ls hP hD hS hl hX)
theorem bo_goto {off : Int} {t : Nat} (C : BX D cy base y p R s m args meth c) (hf : bfe y pc = some (.goto off)) (ht : tg pc off = some t) (K : BNg D cy base c0 s0 f0 vx p l e R s m args below meth c Q t L st w) : BNg D cy base c0 s0 f0 vx p l e R s m args below meth c Q pc L st w := by
  obtain ⟨hx, hb, hml, hown, hts, hK, hN, hR, hi, hbs⟩ := C
  intro f hqf H locs ls hP hD hS hl hX
  exact lv_goto hx hb (bfe_dec hf rfl) (tg_at ht) (K f hqf H locs ls hP hD hS hl hX)
theorem bo_icmp {off a b : Int} {t : Nat} {r : List AV} (C : BX D cy base y p R s m args meth c) (hf : bfe y pc = some (.if_icmp .ge off)) (ha : okZ a) (hb0 : okZ b) (ht : tg pc off = some t) (K1 : b ≤ a → BNg D cy base c0 s0 f0 vx p l e R s m args below meth c Q t L r w) (K2 : ¬ b ≤ a → BNg D cy base c0 s0 f0 vx p l e R s m args below meth c Q (pc + 3) L r w) : BNg D cy base c0 s0 f0 vx p l e R s m args below meth c Q pc L (aI b :: aI a :: r) w := by
  obtain ⟨hx, hb, hml, hown, hts, hK, hN, hR, hi, hbs⟩ := C
  intro f hqf H locs ls hP hD hS hl hX
  exact lv_icmp_ge hx hb (bfe_dec hf rfl) (tg_at ht) (fun z => K1 ((o32_le hb0 ha).mp z) f hqf H locs ls hP hD hS hl hX) (fun z => K2 (fun q => z ((o32_le hb0 ha).mpr q)) f hqf H locs ls hP hD hS hl hX)
theorem bo_getfield {x k c' : Nat} {q : Nat × Int} {fs : List AV} {v : AV} {r : List AV} (C : BX D cy base y p R s m args meth c) (hf : bfe y pc = some (.getfield x)) (hfl : fld (mC y) x = some (c', k)) (hw : w.1[q.1]? = some (.inr (c', fs))) (hv : fs[k]? = some v) (K : BNg D cy base c0 s0 f0 vx p l e R s m args below meth c Q (pc + 3) L (v :: r) w) : BNg D cy base c0 s0 f0 vx p l e R s m args below meth c Q pc L (aQ (some q) :: r) w := by
  obtain ⟨hx, hb, hml, hown, hts, hK, hN, hR, hi, hbs⟩ := C
  intro f hqf H locs ls hP hD hS hl hX
  obtain ⟨h10, hk, hww⟩ := fld_ok hfl
  exact va_get (D := D) (C := cN c') (T := cT c') (N := cS c') hx hb hts (cwTB h10) hown hK hP q.1 (bWS_at hw) (vw_at _ h10) k hk (hts _ (inTB hww rfl)) (fun _ h9 => h9) (by rw [List.getElem?_map, hv]; rfl) (bfe_dec hf rfl) (K f hqf H locs ls hP hD hS hl hX)
theorem bo_iastore {a v : Int} {n : Nat} {u : List (Nat × AV)} {q : Nat × Int} {r : List AV} (C : BX D cy base y p R s m args meth c) (hf : bfe y pc = some .iastore) (hw : w.1[q.1]? = some (.inl (0, n, u))) (ha : 0 ≤ a ∧ a < (n : Int) ∧ a < 2147483648) (K : BNg D cy base c0 s0 f0 vx p l e R s m args below meth c Q (pc + 1) L r (w.1.set q.1 (.inl (0, n, (a.toNat, aI v) :: u)), w.2)) : BNg D cy base c0 s0 f0 vx p l e R s m args below meth c Q pc L (aI v :: aI a :: aQ (some q) :: r) w := by
  obtain ⟨hx, hb, hml, hown, hts, hK, hN, hR, hi, hbs⟩ := C
  intro f hqf H locs ls hP hD hS hl hX
  have hz : okZ a := ⟨by omega, ha.2.2⟩
  have e1 : bM f cy (.inl (0, n, (a.toNat, aI v) :: u)) = .inl (cy 0, n, .inl (upd (fun j => bVI (blk u j)) (Int32.ofInt a).toNatClampNeg (Int32.ofInt v))) := by
    rw [o32_cl hz]
    show Sum.inl (cy 0, n, Sum.inl (fun j => bVI (blk ((a.toNat, aI v) :: u) j))) = _
    congr 4
    funext j
    unfold upd
    rw [blk]
    split
    · rfl
    · rfl
  have hlen : (w.1.set q.1 (.inl (0, n, (a.toNat, aI v) :: u))).length = w.1.length := List.length_set ..
  refine va_iast (x := Int32.ofInt v) hx hb hK hP hD hS q.1 0 (f := fun j => bVI (blk u j)) (bWS_at hw) rfl (o32_in hz ha.1 ha.2.1) (bfe_dec hf rfl) (fun H1 locs1 hP1 hD1 hS1 => ?_)
  rw [← e1, bWS_set] at hP1 hD1
  have := K f hqf H1 locs1 ls hP1 hD1 hS1 hl hX
  dsimp only at this
  rw [hlen] at this
  exact this
theorem bo_aastore {T ci : Nat} {a : Int} {n : Nat} {u : List (Nat × AV)} {q v : Nat × Int} {fs r : List AV} (C : BX D cy base y p R s m args meth c) (hf : bfe y pc = some .aastore) (hT : (T = 3 ∧ ci = 5) ∨ (T = 4 ∧ ci = 3)) (hw : w.1[q.1]? = some (.inl (T, n, u))) (hv : w.1[v.1]? = some (.inr (ci, fs))) (ha : 0 ≤ a ∧ a < (n : Int) ∧ a < 2147483648) (K : BNg D cy base c0 s0 f0 vx p l e R s m args below meth c Q (pc + 1) L r (w.1.set q.1 (.inl (T, n, (a.toNat, aQ (some v)) :: u)), w.2)) : BNg D cy base c0 s0 f0 vx p l e R s m args below meth c Q pc L (aQ (some v) :: aI a :: aQ (some q) :: r) w := by
  obtain ⟨hx, hb, hml, hown, hts, hK, hN, hR, hi, hbs⟩ := C
  intro f hqf H locs ls hP hD hS hl hX
  have hz : okZ a := ⟨by omega, ha.2.2⟩
  have hmT : ∀ u', bM f cy (.inl (T, n, u')) = .inl (cy T, n, .inr (.inr (.inr (.inr (fun j => bVQ f (blk u' j)))))) := fun u' => by
    show bMa f cy T n u' = _
    unfold bMa
    rw [if_neg (by omega), if_neg (by omega), if_neg (by omega)]
  have e1 : bM f cy (.inl (T, n, (a.toNat, aQ (some v)) :: u)) = .inl (cy T, n, .inr (.inr (.inr (.inr (va_up (fun j => bVQ f (blk u j)) (Int32.ofInt a).toNatClampNeg (some (f v.1))))))) := by
    rw [hmT, o32_cl hz]
    congr 7
    funext j
    unfold va_up
    rw [blk]
    split
    · rfl
    · rfl
  have hlen : (w.1.set q.1 (.inl (T, n, (a.toNat, aQ (some v)) :: u))).length = w.1.length := List.length_set ..
  have he := bWS_at (f := f) (cy := cy) hw
  rw [hmT] at he
  have hci : ci < 10 := by omega
  have fin : ∀ (H1 : Heap) (locs1 : List Loc), va_P D vwCl ((bWS f cy w.1).set q.1 (f q.1, .inl (cy T, n, .inr (.inr (.inr (.inr (va_up (fun j => bVQ f (blk u j)) (Int32.ofInt a).toNatClampNeg (some (f v.1))))))))) H1 → va_D (bA base) ((bWS f cy w.1).set q.1 (f q.1, .inl (cy T, n, .inr (.inr (.inr (.inr (va_up (fun j => bVQ f (blk u j)) (Int32.ofInt a).toNatClampNeg (some (f v.1))))))))) → va_S (bA base) s.heap H1 locs1 → W p l e R s m args below meth c H1 locs1 (w.1.length - c0) (w.2 - s0) Q (F0 m (pc + 1) ls (r.map (cv (bad f)))) := fun H1 locs1 hP1 hD1 hS1 => by
    rw [← e1, bWS_set] at hP1 hD1
    have := K f hqf H1 locs1 ls hP1 hD1 hS1 hl hX
    dsimp only at this
    rw [hlen] at this
    exact this
  rcases hT with ⟨rfl, rfl⟩ | ⟨rfl, rfl⟩
  · exact va_astq hx hb hK hP hD hS q.1 3 v.1 5 he rfl (bWS_at hv) (vw_at _ hci) (o32_in hz ha.1 ha.2.1) (bfe_dec hf rfl) fin
  · exact va_astq hx hb hK hP hD hS q.1 4 v.1 3 he rfl (bWS_at hv) (vw_at _ hci) (o32_in hz ha.1 ha.2.1) (bfe_dec hf rfl) fin
end MK
