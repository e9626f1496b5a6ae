/-! numbers -/
theorem o32_id {a : Int} (h : okZ a) : (Int32.ofInt a).toInt = a := Int32.toInt_ofInt_of_le h.1 h.2
theorem o32_wr (a : Int) : Int32.ofInt (wr a) = Int32.ofInt a := Int32.ofInt_toInt _
theorem o32_i (x : Int32) : Int32.ofInt x.toInt = x := Int32.ofInt_toInt x
theorem o32_eq {a b : Int} (h1 : okZ a) (h2 : okZ b) : Int32.ofInt a = Int32.ofInt b ↔ a = b := by
  constructor
  · intro h
    rw [← o32_id h1, ← o32_id h2, h]
  · intro h; rw [h]
theorem o32_lt {a b : Int} (h1 : okZ a) (h2 : okZ b) : Int32.ofInt a < Int32.ofInt b ↔ a < b := by
  rw [Int32.lt_iff_toInt_lt, o32_id h1, o32_id h2]
theorem o32_le {a b : Int} (h1 : okZ a) (h2 : okZ b) : Int32.ofInt a ≤ Int32.ofInt b ↔ a ≤ b := by
  rw [Int32.le_iff_toInt_le, o32_id h1, o32_id h2]
theorem okI_0 : okZ 0 := ⟨by decide, by decide⟩
theorem o32_cl {a : Int} (h : okZ a) : (Int32.ofInt a).toNatClampNeg = a.toNat := by
  rw [Int32.toNatClampNeg, o32_id h]
theorem o32_in {a : Int} {n : Nat} (h : okZ a) (h0 : 0 ≤ a) (h1 : a < (n : Int)) : vp_in (Int32.ofInt a) n := by
  unfold vp_in
  rw [o32_cl h]
  rintro (q | q)
  · rw [show (0 : Int32) = Int32.ofInt 0 from rfl, o32_lt h okI_0] at q
    omega
  · omega
/-! locals -/
def LR (ad : Nat → Int → Nat) (L : List AV) (ls : Array Slot) : Prop := ls.size = L.length ∧ lv_wf ls ∧ ∀ (k : Nat) (v : AV), L[k]? = some v → cat v ≠ 9 → ls[k]? = some (.val (cv ad v))
theorem cv_cat (ad : Nat → Int → Nat) {v : AV} (h : cat v ≠ 9) : (cv ad v).category = cat v := by
  rcases v with a | x | q | u
  · rfl
  · rfl
  · cases q <;> rfl
  · exact absurd rfl h
theorem cat_isJ {v : AV} (h : isJ v = false) : cat v ≠ 2 := by
  rcases v with a | x | q | u
  · exact (by decide : (1 : Nat) ≠ 2)
  · cases h
  · exact (by decide : (1 : Nat) ≠ 2)
  · exact (by decide : (9 : Nat) ≠ 2)
def lvl (ad : Nat → Int → Nat) (L : List AV) : List (Nat × Value) := (List.range L.length).filterMap fun k => match L[k]? with
  | some v => if cat v = 9 then none else some (k, cv ad v)
  | none => none
theorem lvl_has {ad : Nat → Int → Nat} {L : List AV} {ls : Array Slot} (h : LR ad L ls) : lv_has ls L.length (lvl ad L) := by
  refine ⟨h.1, h.2.1, fun q hq => ?_⟩
  obtain ⟨k, -, hk⟩ := List.mem_filterMap.mp hq
  split at hk
  · rename_i v hv
    split at hk
    · cases hk
    · rename_i hc
      cases hk
      exact h.2.2 k v hv hc
  · cases hk
theorem lvl_mem {ad : Nat → Int → Nat} {L : List AV} {k : Nat} {v : AV} (h : L[k]? = some v) (hc : cat v ≠ 9) : (k, cv ad v) ∈ lvl ad L := by
  refine List.mem_filterMap.mpr ⟨k, List.mem_range.mpr (List.getElem?_eq_some_iff.mp h).1, ?_⟩
  rw [h]
  simp only [if_neg hc]
theorem LR_set {ad : Nat → Int → Nat} {L : List AV} {i : Nat} {v : AV} {ls' : Array Slot} (hi : okSt L i = true) (hl : i < L.length) (h : lv_has ls' L.length ((i, cv ad v) :: (lvl ad L).filter (fun q => !(q.1 == i) && !(q.1 + 1 == i && q.2.category == 2)))) : LR ad (L.set i v) ls' := by
  refine ⟨by rw [List.length_set]; exact h.1, h.2.1, fun k w hk hc => ?_⟩
  by_cases hki : k = i
  · subst hki
    rw [List.getElem?_set_self hl] at hk
    cases hk
    exact h.2.2 _ List.mem_cons_self
  · rw [List.getElem?_set_ne (Ne.symm hki)] at hk
    refine h.2.2 (k, cv ad w) (List.mem_cons_of_mem _ (List.mem_filter.mpr ⟨lvl_mem hk hc, ?_⟩))
    have h1 : (k == i) = false := by simpa using hki
    by_cases h2 : k + 1 = i
    · subst h2
      have h3 : isJ w = false := by
        unfold okSt at hi
        simp only [hk, Option.map_some, Option.getD_some, Bool.not_eq_true'] at hi
        exact hi
      have h4 : ((cv ad w).category == 2) = false := by
        rw [cv_cat ad hc]
        simpa using cat_isJ h3
      simp [h4]
    · have h5 : (k + 1 == i) = false := by simpa using h2
      simp [h1, h5]
theorem lay_args {ad : Nat → Int → Nat} : ∀ (as : List AV) (i k : Nat) (v : AV), (lay as)[k]? = some v → cat v ≠ 9 → (i + k, cv ad v) ∈ lv_args i (as.map (cv ad))
  | [], i, k, v, h, _ => by cases h
  | a :: as, i, k, v, h, hc => by
    have ih := lay_args (ad := ad) as
    show (i + k, cv ad v) ∈ (i, cv ad a) :: lv_args (if (cv ad a).category = 2 then i + 2 else i + 1) (as.map (cv ad))
    have hl : lay (a :: as) = (if isJ a then [a, aU] else [a]) ++ lay as := by
      unfold lay
      rw [List.flatMap_cons]
    rw [hl] at h
    rcases a with x | x | q | u
    · cases k with
      | zero => cases h; exact List.mem_cons_self
      | succ k =>
        refine List.mem_cons_of_mem _ ?_
        have := ih (i + 1) k v h hc
        rw [show i + 1 + k = i + (k + 1) by omega] at this
        exact this
    · cases k with
      | zero => cases h; exact List.mem_cons_self
      | succ k =>
        cases k with
        | zero => cases h; exact absurd rfl hc
        | succ k =>
          refine List.mem_cons_of_mem _ ?_
          have := ih (i + 2) k v h hc
          rw [show i + 2 + k = i + (k + 1 + 1) by omega] at this
          exact this
    · cases k with
      | zero => cases h; exact List.mem_cons_self
      | succ k =>
        refine List.mem_cons_of_mem _ ?_
        have := ih (i + 1) k v h hc
        rw [show i + 1 + k = i + (k + 1) by omega] at this
        cases q <;> exact this
    · cases k with
      | zero => cases h; exact absurd rfl hc
      | succ k =>
        refine List.mem_cons_of_mem _ ?_
        have := ih (i + 1) k v h hc
        rw [show i + 1 + k = i + (k + 1) by omega] at this
        exact this
theorem lay_len {ad : Nat → Int → Nat} (as : List AV) : (lg_sl (as.map (cv ad))).length = (lay as).length := by
  induction as with
  | nil => rfl
  | cons a as ih =>
    have hl : lay (a :: as) = (if isJ a then [a, aU] else [a]) ++ lay as := by
      unfold lay
      rw [List.flatMap_cons]
    have hg : lg_sl ((a :: as).map (cv ad)) = (if (cv ad a).category = 2 then [Slot.val (cv ad a), .second] else [Slot.val (cv ad a)]) ++ lg_sl (as.map (cv ad)) := by
      unfold lg_sl
      rw [List.map_cons, List.flatMap_cons]
    rw [hl, hg, List.length_append, List.length_append, ih]
    rcases a with x | x | q | u
    · rfl
    · rfl
    · cases q <;> rfl
    · rfl
/-- a method's entry -/
theorem LR_entry {ad : Nat → Int → Nat} {y : Nat} {as : List AV} (h : (lay as).length ≤ mL y) : LR ad (lay0 y as) ((lg_sl (as.map (cv ad)) ++ List.replicate (mL y - (lg_sl (as.map (cv ad))).length) Slot.unset).toArray) := by
  have hl := lv_entry (as.map (cv ad)) (n := mL y) (by rw [lay_len]; exact h)
  refine ⟨?_, hl.2.1, fun k v hk hc => ?_⟩
  · rw [hl.1]
    unfold lay0
    rw [List.length_append, List.length_replicate]
    omega
  · unfold lay0 at hk
    rw [List.getElem?_append] at hk
    split at hk
    · have := lay_args (ad := ad) as 0 k v hk hc
      rw [Nat.zero_add] at this
      exact hl.2.2 _ this
    · rw [List.getElem?_replicate] at hk
      split at hk
      · cases hk
        exact absurd rfl hc
      · cases hk
/-! what a method's walk stands on -/
def tysOf (cy : Nat → ClassId) : List (ClassId × FieldType) := [(cy 0, .int), (cy 1, .long), (cy 2, .boolean), (cy 3, .object "UncrossedBook$Shelf"), (cy 4, .object "UncrossedBook$Order")]
def NW (U : State) : Prop := ∀ o x n y', site o x = some (2, n, y') → va_Nw (.methodLinkNest (cN o) x (mNm y') "UncrossedBook") U
theorem NW.moved {s U : State} (hW : s.WarmedH U.vm) (h : NW s) : NW U := fun o x n y' hs => va_Nw.warmM hW (h o x n y' hs)
theorem NW.same {s U : State} (hv : s.vm = U.vm) (h : NW s) : NW U := fun o x n y' hs => va_Nw.same rfl hv (h o x n y' hs)
theorem fetch_dec {y pc n : Nat} {i : Instr} (hf : fetch y pc = some i) (hn : ilen i = n) (h0 : n ≠ 0) : decode (mCd y) pc = .ok (i, n) := by
  unfold fetch at hf
  split at hf
  · rename_i i' n' hd
    split at hf
    · rename_i hc
      cases hf
      rw [hd]
      rcases hc with hc | hc
      · exact absurd (hn.symm.trans hc) h0
      · rw [hc, hn]
    · cases hf
  · cases hf
theorem fetch_sw {y pc : Nat} {i : Instr} (hf : fetch y pc = some i) : ∃ n, decode (mCd y) pc = .ok (i, n) := by
  unfold fetch at hf
  split at hf
  · rename_i i' n' hd
    split at hf
    · cases hf
      exact ⟨n', hd⟩
    · cases hf
  · cases hf
theorem tg_at {pc t : Nat} {off : Int} (h : tg pc off = some t) : (pc : Int) + off = (t : Int) := by
  unfold tg at h
  split at h
  · cases h
    omega
  · cases h
/-- the script as the memory has it -/
def Sc (σ : aM) (n : Nat) (xs : Nat → Int32) : Prop := gI σ 34 0 (-1) = (n : Int) ∧ ∀ j : Nat, j < n → gI σ 34 0 (j : Int) = (xs j).toInt
theorem Sc.to {σ σ' : aM} {n : Nat} {xs : Nat → Int32} (h : Sc σ n xs) (hk : ∀ j, gI σ' 34 0 j = gI σ 34 0 j) : Sc σ' n xs := ⟨(hk _).trans h.1, fun j hj => (hk _).trans (h.2 j hj)⟩
section SND
variable {p : Program} {l : Launch} {e : Env} {R : Room} {s : State} {m : MethodId} {args : Array Value} {below : List Frame} {meth : Method} {c : Code} {cells slots : Nat} {Q : State → Prop}
variable {D : va_G} {ad : Nat → Int → Nat} {cy : Nat → ClassId} {A : Nat → Prop} {b n : Nat} {xs : Nat → Int32} {y pc : Nat} {L st : List AV} {σ : aM} {g : aG}
def Cx (D : va_G) (ad : Nat → Int → Nat) (cy : Nat → ClassId) (A : Nat → Prop) (b n : Nat) (xs : Nat → Int32) (y : Nat) (p : Program) (R : Room) (s : State) (m : MethodId) (args : Array Value) (c : Code) (cells slots : Nat) : Prop :=
  p.tables.exec = Jvm.exec ∧ c.code = mCd y ∧ c.maxLocals = mL y ∧ s.vm.findClass (cN (mC y)) = some m.cls ∧ (∀ w ∈ TB, w.before args s = true) ∧ va_K D vwCl (tysOf cy) s ∧ NW s ∧ Apart A ad ∧ (mF y ≤ R.frames ∧ mW y ≤ R.locals) ∧ (cells ≤ R.cells ∧ slots ≤ R.slots) ∧ ad 34 0 = b ∧ va_X b n xs s s.heap ∧ b < s.heap.size ∧ ¬ A b ∧ n < 2 ^ 31
def Nx (D : va_G) (ad : Nat → Int → Nat) (cy : Nat → ClassId) (A : Nat → Prop) (p : Program) (l : Launch) (e : Env) (R : Room) (s : State) (m : MethodId) (args : Array Value) (below : List Frame) (meth : Method) (c : Code) (cells slots : Nat) (Q : State → Prop) (g : aG) : Prop :=
  ∀ (H : Heap) (locs : List Loc) (ls : Array Slot), va_P D vwCl (WS ad cy g.2.2.2) H → va_S A s.heap H locs → LR ad g.2.1 ls → W p l e R s m args below meth c H locs cells slots Q (F0 m g.1 ls (g.2.2.1.map (cv ad)))
theorem so_aload_n {k : Fin 4} (C : Cx D ad cy A b n xs y p R s m args c cells slots) (hL : okA L) (hst : okA st) (hM : okM σ) (hSc : Sc σ n xs) (hf : fetch y pc = some (.aload_n k)) (hs : stp y (.aload_n k) pc L st σ = some (.inl g)) (K : Nx D ad cy A p l e R s m args below meth c cells slots Q g) : Nx D ad cy A p l e R s m args below meth c cells slots Q (pc, L, st, σ) := by
  obtain ⟨hx, hb, hml, hown, hts, hK, hN, hap, hR, hcl, hsb, hX, hbl, hbA, hn⟩ := C
  intro H locs ls hP hS hl
  simp only [stp] at hs
  split at hs
  · rename_i q hq
    cases hs
    have h1 := hl.2.2 _ _ hq (fun z => by cases z)
    cases q with
    | none => exact lv_aload_nN hx hb (fetch_dec hf rfl (by decide)) rfl h1 (K H locs ls hP hS hl)
    | some q => exact lv_aload_n hx hb (fetch_dec hf rfl (by decide)) rfl h1 (K H locs ls hP hS hl)
  · cases hs
theorem so_aload {k : Nat} (C : Cx D ad cy A b n xs y p R s m args c cells slots) (hL : okA L) (hst : okA st) (hM : okM σ) (hSc : Sc σ n xs) (hf : fetch y pc = some (.aload k)) (hs : stp y (.aload k) pc L st σ = some (.inl g)) (K : Nx D ad cy A p l e R s m args below meth c cells slots Q g) : Nx D ad cy A p l e R s m args below meth c cells slots Q (pc, L, st, σ) := by
  obtain ⟨hx, hb, hml, hown, hts, hK, hN, hap, hR, hcl, hsb, hX, hbl, hbA, hn⟩ := C
  intro H locs ls hP hS hl
  simp only [stp] at hs
  split at hs
  · rename_i q hq
    cases hs
    have h1 := hl.2.2 _ _ hq (fun z => by cases z)
    cases q with
    | none => exact lv_aloadN hx hb (fetch_dec hf rfl (by decide)) h1 (K H locs ls hP hS hl)
    | some q => exact lv_aload hx hb (fetch_dec hf rfl (by decide)) h1 (K H locs ls hP hS hl)
  · cases hs
theorem so_iload_n {k : Fin 4} (C : Cx D ad cy A b n xs y p R s m args c cells slots) (hL : okA L) (hst : okA st) (hM : okM σ) (hSc : Sc σ n xs) (hf : fetch y pc = some (.iload_n k)) (hs : stp y (.iload_n k) pc L st σ = some (.inl g)) (K : Nx D ad cy A p l e R s m args below meth c cells slots Q g) : Nx D ad cy A p l e R s m args below meth c cells slots Q (pc, L, st, σ) := by
  obtain ⟨hx, hb, hml, hown, hts, hK, hN, hap, hR, hcl, hsb, hX, hbl, hbA, hn⟩ := C
  intro H locs ls hP hS hl
  simp only [stp] at hs
  split at hs
  · rename_i q hq
    cases hs
    have h1 := hl.2.2 _ _ hq (fun z => by cases z)
    exact lv_iload_n hx hb (fetch_dec hf rfl (by decide)) rfl h1 (K H locs ls hP hS hl)
  · cases hs
theorem so_iload {k : Nat} (C : Cx D ad cy A b n xs y p R s m args c cells slots) (hL : okA L) (hst : okA st) (hM : okM σ) (hSc : Sc σ n xs) (hf : fetch y pc = some (.iload k)) (hs : stp y (.iload k) pc L st σ = some (.inl g)) (K : Nx D ad cy A p l e R s m args below meth c cells slots Q g) : Nx D ad cy A p l e R s m args below meth c cells slots Q (pc, L, st, σ) := by
  obtain ⟨hx, hb, hml, hown, hts, hK, hN, hap, hR, hcl, hsb, hX, hbl, hbA, hn⟩ := C
  intro H locs ls hP hS hl
  simp only [stp] at hs
  split at hs
  · rename_i q hq
    cases hs
    have h1 := hl.2.2 _ _ hq (fun z => by cases z)
    exact lv_iload hx hb (fetch_dec hf rfl (by decide)) h1 (K H locs ls hP hS hl)
  · cases hs
theorem so_lload_n {k : Fin 4} (C : Cx D ad cy A b n xs y p R s m args c cells slots) (hL : okA L) (hst : okA st) (hM : okM σ) (hSc : Sc σ n xs) (hf : fetch y pc = some (.lload_n k)) (hs : stp y (.lload_n k) pc L st σ = some (.inl g)) (K : Nx D ad cy A p l e R s m args below meth c cells slots Q g) : Nx D ad cy A p l e R s m args below meth c cells slots Q (pc, L, st, σ) := by
  obtain ⟨hx, hb, hml, hown, hts, hK, hN, hap, hR, hcl, hsb, hX, hbl, hbA, hn⟩ := C
  intro H locs ls hP hS hl
  simp only [stp] at hs
  split at hs
  · rename_i q hq
    cases hs
    have h1 := hl.2.2 _ _ hq (fun z => by cases z)
    exact lv_lload_n hx hb (fetch_dec hf rfl (by decide)) rfl h1 (K H locs ls hP hS hl)
  · cases hs
theorem so_istore_n {k : Fin 4} (C : Cx D ad cy A b n xs y p R s m args c cells slots) (hL : okA L) (hst : okA st) (hM : okM σ) (hSc : Sc σ n xs) (hf : fetch y pc = some (.istore_n k)) (hs : stp y (.istore_n k) pc L st σ = some (.inl g)) (K : Nx D ad cy A p l e R s m args below meth c cells slots Q g) : Nx D ad cy A p l e R s m args below meth c cells slots Q (pc, L, st, σ) := by
  obtain ⟨hx, hb, hml, hown, hts, hK, hN, hap, hR, hcl, hsb, hX, hbl, hbA, hn⟩ := C
  intro H locs ls hP hS hl
  simp only [stp] at hs
  split at hs
  · unfold stS at hs
    split at hs
    · rename_i hk
      cases hs
      exact lv_istore_n hx hb (fetch_dec hf rfl (by decide)) rfl (lvl_has hl) hk.1 rfl (fun ls' h' => K H locs ls' hP hS (LR_set hk.2 hk.1 h'))
    · cases hs
  · cases hs
theorem so_istore {k : Nat} (C : Cx D ad cy A b n xs y p R s m args c cells slots) (hL : okA L) (hst : okA st) (hM : okM σ) (hSc : Sc σ n xs) (hf : fetch y pc = some (.istore k)) (hs : stp y (.istore k) pc L st σ = some (.inl g)) (K : Nx D ad cy A p l e R s m args below meth c cells slots Q g) : Nx D ad cy A p l e R s m args below meth c cells slots Q (pc, L, st, σ) := by
  obtain ⟨hx, hb, hml, hown, hts, hK, hN, hap, hR, hcl, hsb, hX, hbl, hbA, hn⟩ := C
  intro H locs ls hP hS hl
  simp only [stp] at hs
  split at hs
  · unfold stS at hs
    split at hs
    · rename_i hk
      cases hs
      exact lv_istore hx hb (fetch_dec hf rfl (by decide)) (lvl_has hl) hk.1 rfl (fun ls' h' => K H locs ls' hP hS (LR_set hk.2 hk.1 h'))
    · cases hs
  · cases hs
theorem so_astore_n {k : Fin 4} (C : Cx D ad cy A b n xs y p R s m args c cells slots) (hL : okA L) (hst : okA st) (hM : okM σ) (hSc : Sc σ n xs) (hf : fetch y pc = some (.astore_n k)) (hs : stp y (.astore_n k) pc L st σ = some (.inl g)) (K : Nx D ad cy A p l e R s m args below meth c cells slots Q g) : Nx D ad cy A p l e R s m args below meth c cells slots Q (pc, L, st, σ) := by
  obtain ⟨hx, hb, hml, hown, hts, hK, hN, hap, hR, hcl, hsb, hX, hbl, hbA, hn⟩ := C
  intro H locs ls hP hS hl
  simp only [stp] at hs
  split at hs
  · rename_i q r
    unfold stS at hs
    split at hs
    · rename_i hk
      cases hs
      cases q with
      | none => exact lv_astore_nN hx hb (fetch_dec hf rfl (by decide)) rfl (lvl_has hl) hk.1 rfl (fun ls' h' => K H locs ls' hP hS (LR_set (v := aN) hk.2 hk.1 h'))
      | some q => exact lv_astore_n hx hb (fetch_dec hf rfl (by decide)) rfl (lvl_has hl) hk.1 rfl (fun ls' h' => K H locs ls' hP hS (LR_set (v := aQ (some q)) hk.2 hk.1 h'))
    · cases hs
  · cases hs
theorem so_astore {k : Nat} (C : Cx D ad cy A b n xs y p R s m args c cells slots) (hL : okA L) (hst : okA st) (hM : okM σ) (hSc : Sc σ n xs) (hf : fetch y pc = some (.astore k)) (hs : stp y (.astore k) pc L st σ = some (.inl g)) (K : Nx D ad cy A p l e R s m args below meth c cells slots Q g) : Nx D ad cy A p l e R s m args below meth c cells slots Q (pc, L, st, σ) := by
  obtain ⟨hx, hb, hml, hown, hts, hK, hN, hap, hR, hcl, hsb, hX, hbl, hbA, hn⟩ := C
  intro H locs ls hP hS hl
  simp only [stp] at hs
  split at hs
  · rename_i q r
    unfold stS at hs
    split at hs
    · rename_i hk
      cases hs
      cases q with
      | none => exact lv_astoreN hx hb (fetch_dec hf rfl (by decide)) (lvl_has hl) hk.1 rfl (fun ls' h' => K H locs ls' hP hS (LR_set (v := aN) hk.2 hk.1 h'))
      | some q => exact lv_astore hx hb (fetch_dec hf rfl (by decide)) (lvl_has hl) hk.1 rfl (fun ls' h' => K H locs ls' hP hS (LR_set (v := aQ (some q)) hk.2 hk.1 h'))
    · cases hs
  · cases hs
theorem so_iinc {k : Nat} {z : Int} (C : Cx D ad cy A b n xs y p R s m args c cells slots) (hL : okA L) (hst : okA st) (hM : okM σ) (hSc : Sc σ n xs) (hf : fetch y pc = some (.iinc k z)) (hs : stp y (.iinc k z) pc L st σ = some (.inl g)) (K : Nx D ad cy A p l e R s m args below meth c cells slots Q g) : Nx D ad cy A p l e R s m args below meth c cells slots Q (pc, L, st, σ) := by
  obtain ⟨hx, hb, hml, hown, hts, hK, hN, hap, hR, hcl, hsb, hX, hbl, hbA, hn⟩ := C
  intro H locs ls hP hS hl
  simp only [stp] at hs
  split at hs
  · rename_i v hv
    unfold stS at hs
    split at hs
    · rename_i hk
      cases hs
      have hm := lvl_mem (ad := ad) hv (fun z => by cases z)
      obtain ⟨j, hj⟩ := List.getElem?_of_mem hm
      have e1 : Value.int (Int32.ofInt v + Int32.ofInt z) = cv ad (aI (wr (v + z))) := by
        show _ = Value.int (Int32.ofInt (wr (v + z)))
        rw [o32_wr, Int32.ofInt_add]
      refine lv_iinc (v := Int32.ofInt v + Int32.ofInt z) hx hb (fetch_dec hf rfl (by decide)) (lvl_has hl) hj rfl hk.1 rfl (fun ls' h' => K H locs ls' hP hS (LR_set hk.2 hk.1 ?_))
      rw [← e1]
      exact h'
    · cases hs
  · cases hs
theorem so_aconst_null (C : Cx D ad cy A b n xs y p R s m args c cells slots) (hL : okA L) (hst : okA st) (hM : okM σ) (hSc : Sc σ n xs) (hf : fetch y pc = some (.aconst_null)) (hs : stp y (.aconst_null) pc L st σ = some (.inl g)) (K : Nx D ad cy A p l e R s m args below meth c cells slots Q g) : Nx D ad cy A p l e R s m args below meth c cells slots Q (pc, L, st, σ) := by
  obtain ⟨hx, hb, hml, hown, hts, hK, hN, hap, hR, hcl, hsb, hX, hbl, hbA, hn⟩ := C
  intro H locs ls hP hS hl
  simp only [stp] at hs
  cases hs
  exact lv_null hx hb (fetch_dec hf rfl (by decide)) (K H locs ls hP hS hl)
theorem so_iconst {z : Int} (C : Cx D ad cy A b n xs y p R s m args c cells slots) (hL : okA L) (hst : okA st) (hM : okM σ) (hSc : Sc σ n xs) (hf : fetch y pc = some (.iconst z)) (hs : stp y (.iconst z) pc L st σ = some (.inl g)) (K : Nx D ad cy A p l e R s m args below meth c cells slots Q g) : Nx D ad cy A p l e R s m args below meth c cells slots Q (pc, L, st, σ) := by
  obtain ⟨hx, hb, hml, hown, hts, hK, hN, hap, hR, hcl, hsb, hX, hbl, hbA, hn⟩ := C
  intro H locs ls hP hS hl
  simp only [stp] at hs
  split at hs
  · cases hs
    exact lv_iconst hx hb (fetch_dec hf rfl (by decide)) rfl (K H locs ls hP hS hl)
  · cases hs
theorem so_bipush {z : Int} (C : Cx D ad cy A b n xs y p R s m args c cells slots) (hL : okA L) (hst : okA st) (hM : okM σ) (hSc : Sc σ n xs) (hf : fetch y pc = some (.bipush z)) (hs : stp y (.bipush z) pc L st σ = some (.inl g)) (K : Nx D ad cy A p l e R s m args below meth c cells slots Q g) : Nx D ad cy A p l e R s m args below meth c cells slots Q (pc, L, st, σ) := by
  obtain ⟨hx, hb, hml, hown, hts, hK, hN, hap, hR, hcl, hsb, hX, hbl, hbA, hn⟩ := C
  intro H locs ls hP hS hl
  simp only [stp] at hs
  split at hs
  · rename_i hz
    cases hs
    refine lv_bipush (v := Int32.ofInt z) hx hb (fetch_dec hf rfl (by decide)) ?_ (K H locs ls hP hS hl)
    rw [← Int32.toInt_inj, Int8.toInt_toInt32, Int8.toInt_ofInt_of_le hz.1 hz.2, o32_id ⟨by omega, by omega⟩]
  · cases hs
theorem so_sipush {z : Int} (C : Cx D ad cy A b n xs y p R s m args c cells slots) (hL : okA L) (hst : okA st) (hM : okM σ) (hSc : Sc σ n xs) (hf : fetch y pc = some (.sipush z)) (hs : stp y (.sipush z) pc L st σ = some (.inl g)) (K : Nx D ad cy A p l e R s m args below meth c cells slots Q g) : Nx D ad cy A p l e R s m args below meth c cells slots Q (pc, L, st, σ) := by
  obtain ⟨hx, hb, hml, hown, hts, hK, hN, hap, hR, hcl, hsb, hX, hbl, hbA, hn⟩ := C
  intro H locs ls hP hS hl
  simp only [stp] at hs
  split at hs
  · rename_i hz
    cases hs
    refine lv_sipush (v := Int32.ofInt z) hx hb (fetch_dec hf rfl (by decide)) ?_ (K H locs ls hP hS hl)
    rw [← Int32.toInt_inj, Int16.toInt_toInt32, Int16.toInt_ofInt_of_le hz.1 hz.2, o32_id ⟨by omega, by omega⟩]
  · cases hs
theorem so_lconst {z : Fin 2} (C : Cx D ad cy A b n xs y p R s m args c cells slots) (hL : okA L) (hst : okA st) (hM : okM σ) (hSc : Sc σ n xs) (hf : fetch y pc = some (.lconst z)) (hs : stp y (.lconst z) pc L st σ = some (.inl g)) (K : Nx D ad cy A p l e R s m args below meth c cells slots Q g) : Nx D ad cy A p l e R s m args below meth c cells slots Q (pc, L, st, σ) := by
  obtain ⟨hx, hb, hml, hown, hts, hK, hN, hap, hR, hcl, hsb, hX, hbl, hbA, hn⟩ := C
  intro H locs ls hP hS hl
  simp only [stp] at hs
  cases hs
  exact lv_lconst hx hb (fetch_dec hf rfl (by decide)) rfl (K H locs ls hP hS hl)
theorem cst_in {c x : Nat} {v : Int} (h : cst c x = some v) : Cond.constant (cN c) x (Int32.ofInt v) ∈ TB := by
  unfold cst at h
  cases hf : cstT.find? (fun q => q.1 == c && q.2.1 == x) with
  | none => rw [hf] at h; cases h
  | some q =>
    rw [hf] at h
    have hm := List.mem_of_find?_eq_some hf
    have hx := List.find?_some hf
    simp only [Bool.and_eq_true, beq_iff_eq] at hx
    simp only [Option.map_some, Option.some.injEq] at h
    subst h
    rw [← hx.1, ← hx.2]
    exact inTB (cst_ok _ hm) rfl
theorem so_ldc {x : Nat} (C : Cx D ad cy A b n xs y p R s m args c cells slots) (hL : okA L) (hst : okA st) (hM : okM σ) (hSc : Sc σ n xs) (hf : fetch y pc = some (.ldc x)) (hs : stp y (.ldc x) pc L st σ = some (.inl g)) (K : Nx D ad cy A p l e R s m args below meth c cells slots Q g) : Nx D ad cy A p l e R s m args below meth c cells slots Q (pc, L, st, σ) := by
  obtain ⟨hx, hb, hml, hown, hts, hK, hN, hap, hR, hcl, hsb, hX, hbl, hbA, hn⟩ := C
  intro H locs ls hP hS hl
  simp only [stp] at hs
  split at hs
  · rename_i v hv
    split at hs
    · cases hs
      exact lv_ldc hx hb hown (hts _ (cst_in hv)) (fetch_dec hf rfl (by decide)) (K H locs ls hP hS hl)
    · cases hs
  · cases hs
theorem so_ldc_w {x : Nat} (C : Cx D ad cy A b n xs y p R s m args c cells slots) (hL : okA L) (hst : okA st) (hM : okM σ) (hSc : Sc σ n xs) (hf : fetch y pc = some (.ldc_w x)) (hs : stp y (.ldc_w x) pc L st σ = some (.inl g)) (K : Nx D ad cy A p l e R s m args below meth c cells slots Q g) : Nx D ad cy A p l e R s m args below meth c cells slots Q (pc, L, st, σ) := by
  obtain ⟨hx, hb, hml, hown, hts, hK, hN, hap, hR, hcl, hsb, hX, hbl, hbA, hn⟩ := C
  intro H locs ls hP hS hl
  simp only [stp] at hs
  split at hs
  · rename_i v hv
    split at hs
    · cases hs
      exact lv_ldcw hx hb hown (hts _ (cst_in hv)) (fetch_dec hf rfl (by decide)) (K H locs ls hP hS hl)
    · cases hs
  · cases hs
theorem so_ldc2_w {x : Nat} (C : Cx D ad cy A b n xs y p R s m args c cells slots) (hL : okA L) (hst : okA st) (hM : okM σ) (hSc : Sc σ n xs) (hf : fetch y pc = some (.ldc2_w x)) (hs : stp y (.ldc2_w x) pc L st σ = some (.inl g)) (K : Nx D ad cy A p l e R s m args below meth c cells slots Q g) : Nx D ad cy A p l e R s m args below meth c cells slots Q (pc, L, st, σ) := by
  obtain ⟨hx, hb, hml, hown, hts, hK, hN, hap, hR, hcl, hsb, hX, hbl, hbA, hn⟩ := C
  intro H locs ls hP hS hl
  simp only [stp] at hs
  split at hs
  · rename_i v hv
    cases hs
    have h1 : mC y = 12 ∧ x = 18 ∧ v = 4294967295 := by
      unfold cstL at hv
      split at hv
      · rename_i h
        cases hv
        exact ⟨h.1, h.2, rfl⟩
      · cases hv
    obtain ⟨h1, h2, rfl⟩ := h1
    subst h2
    refine lv_ldc2 hx hb hown (hts _ (inTB ?_ rfl)) (fetch_dec hf rfl (by decide)) (K H locs ls hP hS hl)
    rw [h1]
    exact cstL_ok
  · cases hs
theorem so_dup (C : Cx D ad cy A b n xs y p R s m args c cells slots) (hL : okA L) (hst : okA st) (hM : okM σ) (hSc : Sc σ n xs) (hf : fetch y pc = some (.dup)) (hs : stp y (.dup) pc L st σ = some (.inl g)) (K : Nx D ad cy A p l e R s m args below meth c cells slots Q g) : Nx D ad cy A p l e R s m args below meth c cells slots Q (pc, L, st, σ) := by
  obtain ⟨hx, hb, hml, hown, hts, hK, hN, hap, hR, hcl, hsb, hX, hbl, hbA, hn⟩ := C
  intro H locs ls hP hS hl
  simp only [stp] at hs
  split at hs
  · split at hs
    · rename_i v r hc
      cases hs
      exact lv_dup hx hb (fetch_dec hf rfl (by decide)) (by rw [cv_cat ad (by rw [hc]; decide)]; exact hc) (K H locs ls hP hS hl)
    · cases hs
  · cases hs
theorem so_dup2 (C : Cx D ad cy A b n xs y p R s m args c cells slots) (hL : okA L) (hst : okA st) (hM : okM σ) (hSc : Sc σ n xs) (hf : fetch y pc = some (.dup2)) (hs : stp y (.dup2) pc L st σ = some (.inl g)) (K : Nx D ad cy A p l e R s m args below meth c cells slots Q g) : Nx D ad cy A p l e R s m args below meth c cells slots Q (pc, L, st, σ) := by
  obtain ⟨hx, hb, hml, hown, hts, hK, hN, hap, hR, hcl, hsb, hX, hbl, hbA, hn⟩ := C
  intro H locs ls hP hS hl
  simp only [stp] at hs
  split at hs
  · split at hs
    · rename_i u v r hc
      cases hs
      exact lv_dup2_11 hx hb (fetch_dec hf rfl (by decide)) (by rw [cv_cat ad (by rw [hc.1]; decide)]; exact hc.1) (by rw [cv_cat ad (by rw [hc.2]; decide)]; exact hc.2) (K H locs ls hP hS hl)
    · cases hs
  · cases hs
theorem so_pop (C : Cx D ad cy A b n xs y p R s m args c cells slots) (hL : okA L) (hst : okA st) (hM : okM σ) (hSc : Sc σ n xs) (hf : fetch y pc = some (.pop)) (hs : stp y (.pop) pc L st σ = some (.inl g)) (K : Nx D ad cy A p l e R s m args below meth c cells slots Q g) : Nx D ad cy A p l e R s m args below meth c cells slots Q (pc, L, st, σ) := by
  obtain ⟨hx, hb, hml, hown, hts, hK, hN, hap, hR, hcl, hsb, hX, hbl, hbA, hn⟩ := C
  intro H locs ls hP hS hl
  simp only [stp] at hs
  split at hs
  · split at hs
    · rename_i v r hc
      cases hs
      exact lv_pop hx hb (fetch_dec hf rfl (by decide)) (by rw [cv_cat ad (by rw [hc]; decide)]; exact hc) (K H locs ls hP hS hl)
    · cases hs
  · cases hs
theorem so_iadd (C : Cx D ad cy A b n xs y p R s m args c cells slots) (hL : okA L) (hst : okA st) (hM : okM σ) (hSc : Sc σ n xs) (hf : fetch y pc = some (.iadd)) (hs : stp y (.iadd) pc L st σ = some (.inl g)) (K : Nx D ad cy A p l e R s m args below meth c cells slots Q g) : Nx D ad cy A p l e R s m args below meth c cells slots Q (pc, L, st, σ) := by
  obtain ⟨hx, hb, hml, hown, hts, hK, hN, hap, hR, hcl, hsb, hX, hbl, hbA, hn⟩ := C
  intro H locs ls hP hS hl
  simp only [stp] at hs
  split at hs
  · rename_i v u r
    cases hs
    have e1 : Value.int (Int32.ofInt u + Int32.ofInt v) = cv ad (aI (wr (u + v))) := by
      show _ = Value.int (Int32.ofInt (wr (u + v)))
      rw [o32_wr, Int32.ofInt_add]
    refine lv_iadd hx hb (fetch_dec hf rfl (by decide)) ?_
    rw [e1]
    exact K H locs ls hP hS hl
  · cases hs
theorem so_isub (C : Cx D ad cy A b n xs y p R s m args c cells slots) (hL : okA L) (hst : okA st) (hM : okM σ) (hSc : Sc σ n xs) (hf : fetch y pc = some (.isub)) (hs : stp y (.isub) pc L st σ = some (.inl g)) (K : Nx D ad cy A p l e R s m args below meth c cells slots Q g) : Nx D ad cy A p l e R s m args below meth c cells slots Q (pc, L, st, σ) := by
  obtain ⟨hx, hb, hml, hown, hts, hK, hN, hap, hR, hcl, hsb, hX, hbl, hbA, hn⟩ := C
  intro H locs ls hP hS hl
  simp only [stp] at hs
  split at hs
  · rename_i v u r
    cases hs
    have e1 : Value.int (Int32.ofInt u - Int32.ofInt v) = cv ad (aI (wr (u - v))) := by
      show _ = Value.int (Int32.ofInt (wr (u - v)))
      rw [o32_wr, Int32.ofInt_sub]
    refine lv_isub hx hb (fetch_dec hf rfl (by decide)) ?_
    rw [e1]
    exact K H locs ls hP hS hl
  · cases hs
theorem so_imul (C : Cx D ad cy A b n xs y p R s m args c cells slots) (hL : okA L) (hst : okA st) (hM : okM σ) (hSc : Sc σ n xs) (hf : fetch y pc = some (.imul)) (hs : stp y (.imul) pc L st σ = some (.inl g)) (K : Nx D ad cy A p l e R s m args below meth c cells slots Q g) : Nx D ad cy A p l e R s m args below meth c cells slots Q (pc, L, st, σ) := by
  obtain ⟨hx, hb, hml, hown, hts, hK, hN, hap, hR, hcl, hsb, hX, hbl, hbA, hn⟩ := C
  intro H locs ls hP hS hl
  simp only [stp] at hs
  split at hs
  · rename_i v u r
    cases hs
    have e1 : Value.int (Int32.ofInt u * Int32.ofInt v) = cv ad (aI (wr (u * v))) := by
      show _ = Value.int (Int32.ofInt (wr (u * v)))
      rw [o32_wr, Int32.ofInt_mul]
    refine lv_imul hx hb (fetch_dec hf rfl (by decide)) ?_
    rw [e1]
    exact K H locs ls hP hS hl
  · cases hs
theorem so_iand (C : Cx D ad cy A b n xs y p R s m args c cells slots) (hL : okA L) (hst : okA st) (hM : okM σ) (hSc : Sc σ n xs) (hf : fetch y pc = some (.iand)) (hs : stp y (.iand) pc L st σ = some (.inl g)) (K : Nx D ad cy A p l e R s m args below meth c cells slots Q g) : Nx D ad cy A p l e R s m args below meth c cells slots Q (pc, L, st, σ) := by
  obtain ⟨hx, hb, hml, hown, hts, hK, hN, hap, hR, hcl, hsb, hX, hbl, hbA, hn⟩ := C
  intro H locs ls hP hS hl
  simp only [stp] at hs
  split at hs
  · rename_i v u r
    cases hs
    have e1 : Value.int (Int32.ofInt u &&& Int32.ofInt v) = cv ad (aI (ian u v)) := by
      show _ = Value.int (Int32.ofInt (ian u v))
      unfold ian
      rw [o32_i]
    refine lv_iand hx hb (fetch_dec hf rfl (by decide)) ?_
    rw [e1]
    exact K H locs ls hP hS hl
  · cases hs
theorem so_iushr (C : Cx D ad cy A b n xs y p R s m args c cells slots) (hL : okA L) (hst : okA st) (hM : okM σ) (hSc : Sc σ n xs) (hf : fetch y pc = some (.iushr)) (hs : stp y (.iushr) pc L st σ = some (.inl g)) (K : Nx D ad cy A p l e R s m args below meth c cells slots Q g) : Nx D ad cy A p l e R s m args below meth c cells slots Q (pc, L, st, σ) := by
  obtain ⟨hx, hb, hml, hown, hts, hK, hN, hap, hR, hcl, hsb, hX, hbl, hbA, hn⟩ := C
  intro H locs ls hP hS hl
  simp only [stp] at hs
  split at hs
  · rename_i v u r
    cases hs
    refine lv_iushr (v := Int32.ofInt (shr u v)) hx hb (fetch_dec hf rfl (by decide)) ?_ (K H locs ls hP hS hl)
    unfold shr
    rw [o32_i]
  · cases hs
theorem so_idiv (C : Cx D ad cy A b n xs y p R s m args c cells slots) (hL : okA L) (hst : okA st) (hM : okM σ) (hSc : Sc σ n xs) (hf : fetch y pc = some (.idiv)) (hs : stp y (.idiv) pc L st σ = some (.inl g)) (K : Nx D ad cy A p l e R s m args below meth c cells slots Q g) : Nx D ad cy A p l e R s m args below meth c cells slots Q (pc, L, st, σ) := by
  obtain ⟨hx, hb, hml, hown, hts, hK, hN, hap, hR, hcl, hsb, hX, hbl, hbA, hn⟩ := C
  intro H locs ls hP hS hl
  simp only [stp] at hs
  split at hs
  · rename_i v u r
    split at hs
    · rename_i hz
      cases hs
      have e1 : Value.int (Int32.ofInt u / Int32.ofInt v) = cv ad (aI (quo u v)) := by
        show _ = Value.int (Int32.ofInt (quo u v))
        unfold quo
        rw [o32_i]
      refine lv_idiv hx hb (fetch_dec hf rfl (by decide)) (fun q => hz ((o32_eq (okA_hd hst) okI_0).mp q)) ?_
      rw [e1]
      exact K H locs ls hP hS hl
    · cases hs
  · cases hs
theorem so_irem (C : Cx D ad cy A b n xs y p R s m args c cells slots) (hL : okA L) (hst : okA st) (hM : okM σ) (hSc : Sc σ n xs) (hf : fetch y pc = some (.irem)) (hs : stp y (.irem) pc L st σ = some (.inl g)) (K : Nx D ad cy A p l e R s m args below meth c cells slots Q g) : Nx D ad cy A p l e R s m args below meth c cells slots Q (pc, L, st, σ) := by
  obtain ⟨hx, hb, hml, hown, hts, hK, hN, hap, hR, hcl, hsb, hX, hbl, hbA, hn⟩ := C
  intro H locs ls hP hS hl
  simp only [stp] at hs
  split at hs
  · rename_i v u r
    split at hs
    · rename_i hz
      cases hs
      have e1 : Value.int (Int32.ofInt u - Int32.ofInt u / Int32.ofInt v * Int32.ofInt v) = cv ad (aI (rem u v)) := by
        show _ = Value.int (Int32.ofInt (rem u v))
        unfold rem
        rw [o32_i]
      refine lv_irem hx hb (fetch_dec hf rfl (by decide)) (fun q => hz ((o32_eq (okA_hd hst) okI_0).mp q)) ?_
      rw [e1]
      exact K H locs ls hP hS hl
    · cases hs
  · cases hs
theorem so_ineg (C : Cx D ad cy A b n xs y p R s m args c cells slots) (hL : okA L) (hst : okA st) (hM : okM σ) (hSc : Sc σ n xs) (hf : fetch y pc = some (.ineg)) (hs : stp y (.ineg) pc L st σ = some (.inl g)) (K : Nx D ad cy A p l e R s m args below meth c cells slots Q g) : Nx D ad cy A p l e R s m args below meth c cells slots Q (pc, L, st, σ) := by
  obtain ⟨hx, hb, hml, hown, hts, hK, hN, hap, hR, hcl, hsb, hX, hbl, hbA, hn⟩ := C
  intro H locs ls hP hS hl
  simp only [stp] at hs
  split at hs
  · rename_i u r
    cases hs
    have e1 : Value.int (-Int32.ofInt u) = cv ad (aI (wr (-u))) := by
      show _ = Value.int (Int32.ofInt (wr (-u)))
      rw [o32_wr, Int32.ofInt_neg]
    refine lv_ineg hx hb (fetch_dec hf rfl (by decide)) ?_
    rw [e1]
    exact K H locs ls hP hS hl
  · cases hs
theorem so_i2b (C : Cx D ad cy A b n xs y p R s m args c cells slots) (hL : okA L) (hst : okA st) (hM : okM σ) (hSc : Sc σ n xs) (hf : fetch y pc = some (.i2b)) (hs : stp y (.i2b) pc L st σ = some (.inl g)) (K : Nx D ad cy A p l e R s m args below meth c cells slots Q g) : Nx D ad cy A p l e R s m args below meth c cells slots Q (pc, L, st, σ) := by
  obtain ⟨hx, hb, hml, hown, hts, hK, hN, hap, hR, hcl, hsb, hX, hbl, hbA, hn⟩ := C
  intro H locs ls hP hS hl
  simp only [stp] at hs
  split at hs
  · rename_i u r
    cases hs
    refine lv_i2b (v := Int32.ofInt (tob u)) hx hb (fetch_dec hf rfl (by decide)) ?_ (K H locs ls hP hS hl)
    unfold tob
    rw [o32_i]
  · cases hs
theorem so_i2s (C : Cx D ad cy A b n xs y p R s m args c cells slots) (hL : okA L) (hst : okA st) (hM : okM σ) (hSc : Sc σ n xs) (hf : fetch y pc = some (.i2s)) (hs : stp y (.i2s) pc L st σ = some (.inl g)) (K : Nx D ad cy A p l e R s m args below meth c cells slots Q g) : Nx D ad cy A p l e R s m args below meth c cells slots Q (pc, L, st, σ) := by
  obtain ⟨hx, hb, hml, hown, hts, hK, hN, hap, hR, hcl, hsb, hX, hbl, hbA, hn⟩ := C
  intro H locs ls hP hS hl
  simp only [stp] at hs
  split at hs
  · rename_i u r
    cases hs
    refine lv_i2s (v := Int32.ofInt (tos u)) hx hb (fetch_dec hf rfl (by decide)) ?_ (K H locs ls hP hS hl)
    unfold tos
    rw [o32_i]
  · cases hs
theorem so_i2l (C : Cx D ad cy A b n xs y p R s m args c cells slots) (hL : okA L) (hst : okA st) (hM : okM σ) (hSc : Sc σ n xs) (hf : fetch y pc = some (.i2l)) (hs : stp y (.i2l) pc L st σ = some (.inl g)) (K : Nx D ad cy A p l e R s m args below meth c cells slots Q g) : Nx D ad cy A p l e R s m args below meth c cells slots Q (pc, L, st, σ) := by
  obtain ⟨hx, hb, hml, hown, hts, hK, hN, hap, hR, hcl, hsb, hX, hbl, hbA, hn⟩ := C
  intro H locs ls hP hS hl
  simp only [stp] at hs
  split at hs
  · cases hs
    exact lv_i2l hx hb (fetch_dec hf rfl (by decide)) rfl (K H locs ls hP hS hl)
  · cases hs
theorem so_l2i (C : Cx D ad cy A b n xs y p R s m args c cells slots) (hL : okA L) (hst : okA st) (hM : okM σ) (hSc : Sc σ n xs) (hf : fetch y pc = some (.l2i)) (hs : stp y (.l2i) pc L st σ = some (.inl g)) (K : Nx D ad cy A p l e R s m args below meth c cells slots Q g) : Nx D ad cy A p l e R s m args below meth c cells slots Q (pc, L, st, σ) := by
  obtain ⟨hx, hb, hml, hown, hts, hK, hN, hap, hR, hcl, hsb, hX, hbl, hbA, hn⟩ := C
  intro H locs ls hP hS hl
  simp only [stp] at hs
  split at hs
  · rename_i u r
    cases hs
    refine lv_l2i (v := Int32.ofInt (toi u)) hx hb (fetch_dec hf rfl (by decide)) ?_ (K H locs ls hP hS hl)
    unfold toi
    rw [o32_i]
  · cases hs
theorem so_ladd (C : Cx D ad cy A b n xs y p R s m args c cells slots) (hL : okA L) (hst : okA st) (hM : okM σ) (hSc : Sc σ n xs) (hf : fetch y pc = some (.ladd)) (hs : stp y (.ladd) pc L st σ = some (.inl g)) (K : Nx D ad cy A p l e R s m args below meth c cells slots Q g) : Nx D ad cy A p l e R s m args below meth c cells slots Q (pc, L, st, σ) := by
  obtain ⟨hx, hb, hml, hown, hts, hK, hN, hap, hR, hcl, hsb, hX, hbl, hbA, hn⟩ := C
  intro H locs ls hP hS hl
  simp only [stp] at hs
  split at hs
  · cases hs
    exact lv_ladd hx hb (fetch_dec hf rfl (by decide)) (K H locs ls hP hS hl)
  · cases hs
theorem so_land (C : Cx D ad cy A b n xs y p R s m args c cells slots) (hL : okA L) (hst : okA st) (hM : okM σ) (hSc : Sc σ n xs) (hf : fetch y pc = some (.land)) (hs : stp y (.land) pc L st σ = some (.inl g)) (K : Nx D ad cy A p l e R s m args below meth c cells slots Q g) : Nx D ad cy A p l e R s m args below meth c cells slots Q (pc, L, st, σ) := by
  obtain ⟨hx, hb, hml, hown, hts, hK, hN, hap, hR, hcl, hsb, hX, hbl, hbA, hn⟩ := C
  intro H locs ls hP hS hl
  simp only [stp] at hs
  split at hs
  · cases hs
    exact lv_land hx hb (fetch_dec hf rfl (by decide)) (K H locs ls hP hS hl)
  · cases hs
theorem so_lor (C : Cx D ad cy A b n xs y p R s m args c cells slots) (hL : okA L) (hst : okA st) (hM : okM σ) (hSc : Sc σ n xs) (hf : fetch y pc = some (.lor)) (hs : stp y (.lor) pc L st σ = some (.inl g)) (K : Nx D ad cy A p l e R s m args below meth c cells slots Q g) : Nx D ad cy A p l e R s m args below meth c cells slots Q (pc, L, st, σ) := by
  obtain ⟨hx, hb, hml, hown, hts, hK, hN, hap, hR, hcl, hsb, hX, hbl, hbA, hn⟩ := C
  intro H locs ls hP hS hl
  simp only [stp] at hs
  split at hs
  · cases hs
    exact lv_lor hx hb (fetch_dec hf rfl (by decide)) (K H locs ls hP hS hl)
  · cases hs
theorem so_lshl (C : Cx D ad cy A b n xs y p R s m args c cells slots) (hL : okA L) (hst : okA st) (hM : okM σ) (hSc : Sc σ n xs) (hf : fetch y pc = some (.lshl)) (hs : stp y (.lshl) pc L st σ = some (.inl g)) (K : Nx D ad cy A p l e R s m args below meth c cells slots Q g) : Nx D ad cy A p l e R s m args below meth c cells slots Q (pc, L, st, σ) := by
  obtain ⟨hx, hb, hml, hown, hts, hK, hN, hap, hR, hcl, hsb, hX, hbl, hbA, hn⟩ := C
  intro H locs ls hP hS hl
  simp only [stp] at hs
  split at hs
  · cases hs
    exact lv_lshl hx hb (fetch_dec hf rfl (by decide)) rfl (K H locs ls hP hS hl)
  · cases hs
theorem so_lcmp (C : Cx D ad cy A b n xs y p R s m args c cells slots) (hL : okA L) (hst : okA st) (hM : okM σ) (hSc : Sc σ n xs) (hf : fetch y pc = some (.lcmp)) (hs : stp y (.lcmp) pc L st σ = some (.inl g)) (K : Nx D ad cy A p l e R s m args below meth c cells slots Q g) : Nx D ad cy A p l e R s m args below meth c cells slots Q (pc, L, st, σ) := by
  obtain ⟨hx, hb, hml, hown, hts, hK, hN, hap, hR, hcl, hsb, hX, hbl, hbA, hn⟩ := C
  intro H locs ls hP hS hl
  simp only [stp] at hs
  split at hs
  · rename_i v u r
    cases hs
    have e1 : Value.int (lg_cmp u v) = cv ad (aI (lg_cmp u v).toInt) := by
      show _ = Value.int (Int32.ofInt (lg_cmp u v).toInt)
      rw [o32_i]
    refine W.lcmp hx hb (fetch_dec hf rfl (by decide)) ?_
    rw [e1]
    exact K H locs ls hP hS hl
  · cases hs
theorem fs_at {ad : Nat → Int → Nat} {σ : aM} {t : Nat} {i : Int} {k : Nat} (hk : k < cS (fC t)) : ((List.range (cS (fC t))).map (fun k => cv ad (slv σ t i k)))[k]? = some (cv ad (slv σ t i k)) := by
  rw [List.getElem?_map, List.getElem?_range hk]
  rfl
theorem cwTB {c : Nat} (hc : c < 10) : ∀ w ∈ u_ws (cN c) (cT c) (cS c), w ∈ TB := by
  intro w hw
  refine inTB (cW_in c hc w hw) ?_
  obtain ⟨k, -, rfl⟩ := List.mem_map.mp hw
  unfold u_lay
  split <;> rfl
theorem so_get {t : Nat} {i : Int} {r : List AV} {x c' k : Nat} (C : Cx D ad cy A b n xs y p R s m args c cells slots) (hok : okv (aR t i)) (hf : fetch y pc = some (.getfield x)) (hfl : fld (mC y) x = some (c', k)) (hc : fC t = c') {v : AV} (hv : v = slv σ t i k) (K : Nx D ad cy A p l e R s m args below meth c cells slots Q (pc + 3, L, v :: r, σ)) : Nx D ad cy A p l e R s m args below meth c cells slots Q (pc, L, aR t i :: r, σ) := by
  obtain ⟨hx, hb, hml, hown, hts, hK, hN, hap, hR, hcl, hsb, hX, hbl, hbA, hn⟩ := C
  intro H locs ls hP hS hl
  obtain ⟨h10, hk, hw⟩ := fld_ok hfl
  have hr := okR_of hok (ne34 hc hfl)
  subst hc
  have he : (WS ad cy σ)[ps t i]? = some (ad t i, .inr (fC t, (List.range (cS (fC t))).map (fun k => cv ad (slv σ t i k)))) := by rw [WS_at hr, cell_obj h10]
  exact va_get (D := D) (C := cN (fC t)) (T := cT (fC t)) (N := cS (fC t)) hx hb hts (cwTB h10) hown hK hP (ps t i) he (vw_at _ h10) k hk (hts _ (inTB hw rfl)) (fun _ h9 => h9) (fs_at hk) (fetch_dec hf rfl (by decide)) (by rw [← hv]; exact K H locs ls hP hS hl)
theorem so_getfield {x : Nat} (C : Cx D ad cy A b n xs y p R s m args c cells slots) (hL : okA L) (hst : okA st) (hM : okM σ) (hSc : Sc σ n xs) (hf : fetch y pc = some (.getfield x)) (hs : stp y (.getfield x) pc L st σ = some (.inl g)) (K : Nx D ad cy A p l e R s m args below meth c cells slots Q g) : Nx D ad cy A p l e R s m args below meth c cells slots Q (pc, L, st, σ) := by
  simp only [stp] at hs
  split at hs
  · split at hs
    · rename_i hfl
      split at hs
      · rename_i hc
        split at hs
        · rename_i h0
          cases hs
          exact so_get C (okA_hd hst) hf hfl hc (by unfold slv; rw [hc, h0]; rfl) K
        · rename_i h0
          cases hs
          exact so_get C (okA_hd hst) hf hfl hc (by unfold slv; rw [hc, h0]; rfl) K
        · rename_i h0
          cases hs
          exact so_get C (okA_hd hst) hf hfl hc (by unfold slv; rw [hc, h0]; rfl) K
        · rename_i h0
          cases hs
          exact so_get C (okA_hd hst) hf hfl hc (by unfold slv; rw [hc, h0]; rfl) K
        · cases hs
      · cases hs
    · cases hs
  · cases hs
theorem cell_uI {ad : Nat → Int → Nat} {cy : Nat → ClassId} {σ : aM} {t : Nat} {i j v : Int} (t' : Nat) (i' : Int) (h : ¬ (t' = t ∧ i' = i)) : cellOf ad cy (uI σ t i j v) t' i' = cellOf ad cy σ t' i' :=
  cellOf_eq (fun j' => by rw [gI_uI, if_neg (fun q => h ⟨q.1, q.2.1⟩)]) (fun _ => rfl) (fun _ _ => rfl)
theorem slv_uI {ad : Nat → Int → Nat} {σ : aM} {t : Nat} {i v : Int} {k : Nat} (hk : k < cS (fC t)) (hs : sK (fC t) k = 0 ∨ sK (fC t) k = 1) : (List.range (cS (fC t))).map (fun k' => cv ad (slv (uI σ t i (k : Int) v) t i k')) = ((List.range (cS (fC t))).map (fun k' => cv ad (slv σ t i k'))).set k (cv ad (aI v)) := by
  apply List.ext_getElem?
  intro j
  by_cases hj : j = k
  · subst hj
    rw [fs_at hk, List.getElem?_set_self (by rw [List.length_map, List.length_range]; exact hk)]
    have e : slv (uI σ t i (j : Int) v) t i j = aI v := by
      unfold slv
      rcases hs with h | h <;> rw [h] <;> simp only [gI_uI, and_self, if_true]
    rw [e]
  · rw [List.getElem?_set_ne (Ne.symm hj)]
    by_cases hl : j < cS (fC t)
    · rw [fs_at hl, fs_at hl]
      have e : slv (uI σ t i (k : Int) v) t i j = slv σ t i j := by
        unfold slv
        rw [gI_uI, if_neg (fun q => hj (by omega))]
      rw [e]
    · rw [List.getElem?_eq_none (by simp; omega), List.getElem?_eq_none (by simp; omega)]
theorem narB {v : Int} (h : isB v = true) : narrow .boolean (.int (Int32.ofInt v)) = .int (Int32.ofInt v) := by
  unfold isB at h
  simp only [Bool.or_eq_true, decide_eq_true_eq] at h
  rcases h with rfl | rfl <;> rfl
theorem fitB {v : Int} (h : isB v = true) : fits .boolean (.int (Int32.ofInt v)) = true := by
  unfold isB at h
  simp only [Bool.or_eq_true, decide_eq_true_eq] at h
  rcases h with rfl | rfl <;> rfl
theorem so_put {t : Nat} {i v : Int} {r : List AV} {x c' k : Nat} (C : Cx D ad cy A b n xs y p R s m args c cells slots) (hok : okv (aR t i)) (hf : fetch y pc = some (.putfield x)) (hfl : fld (mC y) x = some (c', k)) (hc : fC t = c') (hv : sK c' k = 0 ∨ (sK c' k = 1 ∧ isB v = true)) (K : Nx D ad cy A p l e R s m args below meth c cells slots Q (pc + 3, L, r, uI σ t i (k : Int) v)) : Nx D ad cy A p l e R s m args below meth c cells slots Q (pc, L, aI v :: aR t i :: r, σ) := by
  obtain ⟨hx, hb, hml, hown, hts, hK, hN, hap, hR, hcl, hsb, hX, hbl, hbA, hn⟩ := C
  intro H locs ls hP hS hl
  obtain ⟨h10, hk, hw⟩ := fld_ok hfl
  have hr := okR_of hok (ne34 hc hfl)
  subst hc
  have he : (WS ad cy σ)[ps t i]? = some (ad t i, .inr (fC t, (List.range (cS (fC t))).map (fun k => cv ad (slv σ t i k)))) := by rw [WS_at hr, cell_obj h10]
  have key : (sK (fC t) k = 0 ∨ sK (fC t) k = 1) → (cT (fC t) k).2.2.2 = false → ∀ (ty : FieldType), parseFieldDescriptor (cT (fC t) k).2.2.1 = some ty → narrow ty (cv ad (aI v)) = cv ad (aI v) → fits ty (cv ad (aI v)) = true → W p l e R s m args below meth c H locs cells slots Q (F0 m pc ls (cv ad (aI v) :: cv ad (aR t i) :: r.map (cv ad))) := by
    intro hs01 hfin ty hty hnar hfit
    refine va_put (D := D) (C := cN (fC t)) (T := cT (fC t)) (N := cS (fC t)) hx hb hts (cwTB h10) (cY (fC t)) (cY_ok _ h10) (cN_ap _ h10) hown hK hP (WS_D hap) hS (ps t i) he (vw_at _ h10) k hk (hts _ (inTB hw rfl)) (fun _ h9 => h9) hfin hty hnar hfit (by rw [List.length_map, List.length_range]; exact hk) (fetch_dec hf rfl (by decide)) (fun H1 locs1 hP1 hD1 hS1 => ?_)
    refine K H1 locs1 ls ?_ hS1 hl
    have e := WS_set (ad := ad) (cy := cy) (σ := σ) (σ' := uI σ t i (k : Int) v) hr (fun t' i' _ h => cell_uI t' i' h)
    show va_P D vwCl (WS ad cy (uI σ t i (k : Int) v)) H1
    rw [← e, cell_obj h10, slv_uI hk hs01]
    exact hP1
  rcases slot_ok _ h10 _ hk with ⟨q0, q1, q2⟩ | ⟨q0, q1, q2⟩ | q0 | q0
  · exact key (Or.inl q0) q1 _ q2 rfl rfl
  · rcases hv with q | ⟨-, hB⟩
    · rw [q0] at q; cases q
    · exact key (Or.inr q0) q1 _ q2 (narB hB) (fitB hB)
  · rw [q0] at hv; rcases hv with q | ⟨q, -⟩ <;> cases q
  · rw [q0] at hv; rcases hv with q | ⟨q, -⟩ <;> cases q
theorem so_putfield {x : Nat} (C : Cx D ad cy A b n xs y p R s m args c cells slots) (hL : okA L) (hst : okA st) (hM : okM σ) (hSc : Sc σ n xs) (hf : fetch y pc = some (.putfield x)) (hs : stp y (.putfield x) pc L st σ = some (.inl g)) (K : Nx D ad cy A p l e R s m args below meth c cells slots Q g) : Nx D ad cy A p l e R s m args below meth c cells slots Q (pc, L, st, σ) := by
  simp only [stp] at hs
  split at hs
  · split at hs
    · rename_i hfl
      split at hs
      · rename_i hc
        split at hs
        · rename_i h0
          cases hs
          exact so_put C (okA_hd (okA_tl hst)) hf hfl hc (Or.inl h0) K
        · rename_i h0
          split at hs
          · rename_i hB
            cases hs
            exact so_put C (okA_hd (okA_tl hst)) hf hfl hc (Or.inr ⟨h0, hB⟩) K
          · cases hs
        · cases hs
      · cases hs
    · cases hs
  · cases hs
theorem ar_lt {t : Nat} (h : okR t 0 ∨ t < 34) : t ≠ 34 := by
  rcases h with h | h
  · have := h.1; omega
  · omega
theorem aLen_r {σ : aM} {t : Nat} {i : Int} (h : okR t i) : aLen σ t = (fL t : Int) := aLen_n (by have := h.1; omega) rfl
theorem so_iald {t : Nat} {i a : Int} {r : List AV} (C : Cx D ad cy A b n xs y p R s m args c cells slots) (hM : okM σ) (hSc : Sc σ n xs) (hok : okv (aR t i)) (ha : okZ a) (hf : fetch y pc = some .iaload) (hc : fT t = 0 ∧ (0 ≤ a ∧ a < aLen σ t)) (K : Nx D ad cy A p l e R s m args below meth c cells slots Q (pc + 1, L, aI (gI σ t i a) :: r, σ)) : Nx D ad cy A p l e R s m args below meth c cells slots Q (pc, L, aI a :: aR t i :: r, σ) := by
  obtain ⟨hx, hb, hml, hown, hts, hK, hN, hap, hR, hcl, hsb, hX, hbl, hbA, hn⟩ := C
  intro H locs ls hP hS hl
  obtain ⟨hT, h0, h1⟩ := hc
  have e0 : ((a.toNat : Nat) : Int) = a := Int.toNat_of_nonneg h0
  rcases hok t i rfl with hr | ⟨rfl, rfl⟩
  · rw [aLen_r hr] at h1
    have he : (WS ad cy σ)[ps t i]? = some (ad t i, .inl (cy 0, fL t, .inl (fun j => Int32.ofInt (gI σ t i (j : Int))))) := by rw [WS_at hr, cell_int hT]
    refine va_iald hx hb hK hP (ps t i) 0 he rfl (o32_in ha h0 h1) (fetch_dec hf rfl (by decide)) ?_
    rw [o32_cl ha, e0]
    exact K H locs ls hP hS hl
  · have h1 : a < (n : Int) := by
      have e1 : aLen σ 34 = gI σ 34 0 (-1) := rfl
      rw [e1, hSc.1] at h1
      exact h1
    have e2 := hSc.2 a.toNat (by omega)
    rw [e0] at e2
    have e3 : Value.int (xs (Int32.ofInt a).toNatClampNeg) = cv ad (aI (gI σ 34 0 a)) := by
      show _ = Value.int (Int32.ofInt (gI σ 34 0 a))
      rw [e2, o32_i, o32_cl ha]
    show W p l e R s m args below meth c H locs cells slots Q (F0 m pc ls (.int (Int32.ofInt a) :: .ref (ad 34 0) :: r.map (cv ad)))
    rw [hsb]
    refine va_sld hx hb hX hbl hbA hS (o32_in ha h0 h1) (fetch_dec hf rfl (by decide)) ?_
    rw [e3]
    exact K H locs ls hP hS hl
theorem so_iaload (C : Cx D ad cy A b n xs y p R s m args c cells slots) (hL : okA L) (hst : okA st) (hM : okM σ) (hSc : Sc σ n xs) (hf : fetch y pc = some (.iaload)) (hs : stp y (.iaload) pc L st σ = some (.inl g)) (K : Nx D ad cy A p l e R s m args below meth c cells slots Q g) : Nx D ad cy A p l e R s m args below meth c cells slots Q (pc, L, st, σ) := by
  simp only [stp] at hs
  split at hs
  · unfold ldA at hs
    split at hs
    · rename_i hc
      cases hs
      exact so_iald C hM hSc (okA_hd (okA_tl hst)) (okA_hd hst) hf hc K
    · cases hs
  · cases hs
theorem so_bald {t : Nat} {i a : Int} {r : List AV} (C : Cx D ad cy A b n xs y p R s m args c cells slots) (hok : okR t i) (ha : okZ a) (hf : fetch y pc = some .baload) (hc : fT t = 2 ∧ (0 ≤ a ∧ a < aLen σ t)) (K : Nx D ad cy A p l e R s m args below meth c cells slots Q (pc + 1, L, aI (gI σ t i a) :: r, σ)) : Nx D ad cy A p l e R s m args below meth c cells slots Q (pc, L, aI a :: aR t i :: r, σ) := by
  obtain ⟨hx, hb, hml, hown, hts, hK, hN, hap, hR, hcl, hsb, hX, hbl, hbA, hn⟩ := C
  intro H locs ls hP hS hl
  obtain ⟨hT, h0, h1⟩ := hc
  have e0 : ((a.toNat : Nat) : Int) = a := Int.toNat_of_nonneg h0
  rw [aLen_r hok] at h1
  have he : (WS ad cy σ)[ps t i]? = some (ad t i, .inl (cy 2, fL t, .inl (fun j => Int32.ofInt (gI σ t i (j : Int))))) := by rw [WS_at hok, cell_bool hT]
  refine va_zald hx hb hK hP (ps t i) 2 he rfl (o32_in ha h0 h1) (fetch_dec hf rfl (by decide)) ?_
  rw [o32_cl ha, e0]
  exact K H locs ls hP hS hl
theorem so_lald {t : Nat} {i a : Int} {r : List AV} (C : Cx D ad cy A b n xs y p R s m args c cells slots) (hok : okR t i) (ha : okZ a) (hf : fetch y pc = some .laload) (hc : fT t = 1 ∧ (0 ≤ a ∧ a < aLen σ t)) (K : Nx D ad cy A p l e R s m args below meth c cells slots Q (pc + 1, L, aJ (gL σ t i a) :: r, σ)) : Nx D ad cy A p l e R s m args below meth c cells slots Q (pc, L, aI a :: aR t i :: r, σ) := by
  obtain ⟨hx, hb, hml, hown, hts, hK, hN, hap, hR, hcl, hsb, hX, hbl, hbA, hn⟩ := C
  intro H locs ls hP hS hl
  obtain ⟨hT, h0, h1⟩ := hc
  have e0 : ((a.toNat : Nat) : Int) = a := Int.toNat_of_nonneg h0
  rw [aLen_r hok] at h1
  have he : (WS ad cy σ)[ps t i]? = some (ad t i, .inl (cy 1, fL t, .inr (.inl (fun j => gL σ t i (j : Int))))) := by rw [WS_at hok, cell_long hT]
  refine va_lald hx hb hK hP (ps t i) 1 he rfl (o32_in ha h0 h1) (fetch_dec hf rfl (by decide)) ?_
  rw [o32_cl ha, e0]
  exact K H locs ls hP hS hl
theorem n34 {t k : Nat} (h : fT t = k) (hk : k ≠ 0) : t ≠ 34 := by
  rintro rfl
  exact hk h.symm
theorem so_aald {t : Nat} {i a : Int} {r : List AV} (C : Cx D ad cy A b n xs y p R s m args c cells slots) (hok : okR t i) (ha : okZ a) (hf : fetch y pc = some .aaload) (hc : 3 ≤ fT t ∧ fT t ≤ 5 ∧ (0 ≤ a ∧ a < aLen σ t)) (K : Nx D ad cy A p l e R s m args below meth c cells slots Q (pc + 1, L, aQ (aref σ t i a) :: r, σ)) : Nx D ad cy A p l e R s m args below meth c cells slots Q (pc, L, aI a :: aR t i :: r, σ) := by
  obtain ⟨hx, hb, hml, hown, hts, hK, hN, hap, hR, hcl, hsb, hX, hbl, hbA, hn⟩ := C
  intro H locs ls hP hS hl
  obtain ⟨hT, hT2, h0, h1⟩ := hc
  have e0 : ((a.toNat : Nat) : Int) = a := Int.toNat_of_nonneg h0
  rw [aLen_r hok] at h1
  have he : (WS ad cy σ)[ps t i]? = some (ad t i, .inl (cy (if fT t = 3 then 3 else 4), fL t, .inr (.inr (.inr (.inr (fun j => (aref σ t i (j : Int)).map (fun q => ad q.1 q.2))))))) := by rw [WS_at hok, cell_ref ⟨hT, hT2⟩]
  by_cases h3 : fT t = 3
  · rw [if_pos h3] at he
    refine va_aldq (C := "UncrossedBook$Shelf") hx hb hK hP (ps t i) 3 he rfl (o32_in ha h0 h1) (fetch_dec hf rfl (by decide)) ?_
    rw [o32_cl ha, e0]
    exact K H locs ls hP hS hl
  · rw [if_neg h3] at he
    refine va_aldq (C := "UncrossedBook$Order") hx hb hK hP (ps t i) 4 he rfl (o32_in ha h0 h1) (fetch_dec hf rfl (by decide)) ?_
    rw [o32_cl ha, e0]
    exact K H locs ls hP hS hl
theorem so_baload (C : Cx D ad cy A b n xs y p R s m args c cells slots) (hL : okA L) (hst : okA st) (hM : okM σ) (hSc : Sc σ n xs) (hf : fetch y pc = some (.baload)) (hs : stp y (.baload) pc L st σ = some (.inl g)) (K : Nx D ad cy A p l e R s m args below meth c cells slots Q g) : Nx D ad cy A p l e R s m args below meth c cells slots Q (pc, L, st, σ) := by
  simp only [stp] at hs
  split at hs
  · unfold ldA at hs
    split at hs
    · rename_i hc
      cases hs
      exact so_bald C (okR_of (okA_hd (okA_tl hst)) (n34 hc.1 (by decide))) (okA_hd hst) hf hc K
    · cases hs
  · cases hs
theorem so_laload (C : Cx D ad cy A b n xs y p R s m args c cells slots) (hL : okA L) (hst : okA st) (hM : okM σ) (hSc : Sc σ n xs) (hf : fetch y pc = some (.laload)) (hs : stp y (.laload) pc L st σ = some (.inl g)) (K : Nx D ad cy A p l e R s m args below meth c cells slots Q g) : Nx D ad cy A p l e R s m args below meth c cells slots Q (pc, L, st, σ) := by
  simp only [stp] at hs
  split at hs
  · unfold ldA at hs
    split at hs
    · rename_i hc
      cases hs
      exact so_lald C (okR_of (okA_hd (okA_tl hst)) (n34 hc.1 (by decide))) (okA_hd hst) hf hc K
    · cases hs
  · cases hs
theorem so_aaload (C : Cx D ad cy A b n xs y p R s m args c cells slots) (hL : okA L) (hst : okA st) (hM : okM σ) (hSc : Sc σ n xs) (hf : fetch y pc = some (.aaload)) (hs : stp y (.aaload) pc L st σ = some (.inl g)) (K : Nx D ad cy A p l e R s m args below meth c cells slots Q g) : Nx D ad cy A p l e R s m args below meth c cells slots Q (pc, L, st, σ) := by
  simp only [stp] at hs
  split at hs
  · split at hs
    · rename_i hc
      cases hs
      exact so_aald C (okR_of (okA_hd (okA_tl hst)) (n34 rfl (by have := hc.1; omega))) (okA_hd hst) hf hc K
    · cases hs
  · cases hs
theorem upd_uI {σ : aM} {t : Nat} {i a v : Int} (h0 : 0 ≤ a) : (fun j : Nat => Int32.ofInt (gI (uI σ t i a v) t i (j : Int))) = upd (fun j : Nat => Int32.ofInt (gI σ t i (j : Int))) a.toNat (Int32.ofInt v) := by
  funext j
  unfold upd
  rw [gI_uI]
  by_cases hj : j = a.toNat
  · rw [if_pos hj, if_pos ⟨rfl, rfl, by omega⟩]
  · rw [if_neg hj, if_neg (fun q => hj (by have := q.2.2; omega))]
theorem so_iast {t : Nat} {i a v : Int} {r : List AV} (C : Cx D ad cy A b n xs y p R s m args c cells slots) (hok : okR t i) (ha : okZ a) (hf : fetch y pc = some .iastore) (hc : fT t = 0 ∧ (0 ≤ a ∧ a < aLen σ t)) (K : Nx D ad cy A p l e R s m args below meth c cells slots Q (pc + 1, L, r, uI σ t i a v)) : Nx D ad cy A p l e R s m args below meth c cells slots Q (pc, L, aI v :: aI a :: aR t i :: r, σ) := by
  obtain ⟨hx, hb, hml, hown, hts, hK, hN, hap, hR, hcl, hsb, hX, hbl, hbA, hn⟩ := C
  intro H locs ls hP hS hl
  obtain ⟨hT, h0, h1⟩ := hc
  rw [aLen_r hok] at h1
  have he : (WS ad cy σ)[ps t i]? = some (ad t i, .inl (cy 0, fL t, .inl (fun j => Int32.ofInt (gI σ t i (j : Int))))) := by rw [WS_at hok, cell_int hT]
  refine va_iast hx hb hK hP (WS_D hap) hS (ps t i) 0 he rfl (o32_in ha h0 h1) (fetch_dec hf rfl (by decide)) (fun H1 locs1 hP1 hD1 hS1 => ?_)
  refine K H1 locs1 ls ?_ hS1 hl
  have e := WS_set (ad := ad) (cy := cy) (σ := σ) (σ' := uI σ t i a v) hok (fun t' i' _ h => cell_uI t' i' h)
  show va_P D vwCl (WS ad cy (uI σ t i a v)) H1
  rw [← e, cell_int hT, upd_uI h0, ← o32_cl ha]
  exact hP1
theorem so_bast {t : Nat} {i a v : Int} {r : List AV} (C : Cx D ad cy A b n xs y p R s m args c cells slots) (hok : okR t i) (ha : okZ a) (hB : isB v = true) (hf : fetch y pc = some .bastore) (hc : fT t = 2 ∧ (0 ≤ a ∧ a < aLen σ t)) (K : Nx D ad cy A p l e R s m args below meth c cells slots Q (pc + 1, L, r, uI σ t i a v)) : Nx D ad cy A p l e R s m args below meth c cells slots Q (pc, L, aI v :: aI a :: aR t i :: r, σ) := by
  obtain ⟨hx, hb, hml, hown, hts, hK, hN, hap, hR, hcl, hsb, hX, hbl, hbA, hn⟩ := C
  intro H locs ls hP hS hl
  obtain ⟨hT, h0, h1⟩ := hc
  rw [aLen_r hok] at h1
  have he : (WS ad cy σ)[ps t i]? = some (ad t i, .inl (cy 2, fL t, .inl (fun j => Int32.ofInt (gI σ t i (j : Int))))) := by rw [WS_at hok, cell_bool hT]
  refine va_zast hx hb hK hP (WS_D hap) hS (ps t i) 2 he rfl (o32_in ha h0 h1) (fetch_dec hf rfl (by decide)) (fun H1 locs1 hP1 hD1 hS1 => ?_)
  refine K H1 locs1 ls ?_ hS1 hl
  have e := WS_set (ad := ad) (cy := cy) (σ := σ) (σ' := uI σ t i a v) hok (fun t' i' _ h => cell_uI t' i' h)
  show va_P D vwCl (WS ad cy (uI σ t i a v)) H1
  have e2 : vp_nar .boolean (Int32.ofInt v) = Int32.ofInt v := by
    unfold vp_nar
    rw [narB hB]
  rw [← e, cell_bool hT, upd_uI h0, ← o32_cl ha]
  rw [e2] at hP1
  exact hP1
theorem so_last {t : Nat} {i a : Int} {v : Int64} {r : List AV} (C : Cx D ad cy A b n xs y p R s m args c cells slots) (hok : okR t i) (ha : okZ a) (hf : fetch y pc = some .lastore) (hc : fT t = 1 ∧ (0 ≤ a ∧ a < aLen σ t)) (K : Nx D ad cy A p l e R s m args below meth c cells slots Q (pc + 1, L, r, uL σ t i a v)) : Nx D ad cy A p l e R s m args below meth c cells slots Q (pc, L, aJ v :: aI a :: aR t i :: r, σ) := by
  obtain ⟨hx, hb, hml, hown, hts, hK, hN, hap, hR, hcl, hsb, hX, hbl, hbA, hn⟩ := C
  intro H locs ls hP hS hl
  obtain ⟨hT, h0, h1⟩ := hc
  rw [aLen_r hok] at h1
  have he : (WS ad cy σ)[ps t i]? = some (ad t i, .inl (cy 1, fL t, .inr (.inl (fun j => gL σ t i (j : Int))))) := by rw [WS_at hok, cell_long hT]
  refine va_last hx hb hK hP (WS_D hap) hS (ps t i) 1 he rfl (o32_in ha h0 h1) (fetch_dec hf rfl (by decide)) (fun H1 locs1 hP1 hD1 hS1 => ?_)
  refine K H1 locs1 ls ?_ hS1 hl
  have e := WS_set (ad := ad) (cy := cy) (σ := σ) (σ' := uL σ t i a v) hok (fun t' i' hr' h => cellOf_eq (fun _ => rfl) (fun j' => by rw [gL_uL, if_neg (fun q => h ⟨q.1, q.2.1⟩)]) (fun _ _ => rfl))
  show va_P D vwCl (WS ad cy (uL σ t i a v)) H1
  have e2 : (fun j : Nat => gL (uL σ t i a v) t i (j : Int)) = vp_updL (fun j : Nat => gL σ t i (j : Int)) a.toNat v := by
    funext j
    unfold vp_updL
    rw [gL_uL]
    by_cases hj : j = a.toNat
    · rw [if_pos hj, if_pos ⟨rfl, rfl, by omega⟩]
    · rw [if_neg hj, if_neg (fun q => hj (by have := q.2.2; omega))]
  rw [← e, cell_long hT, e2, ← o32_cl ha]
  exact hP1
theorem so_aast {i i2 a : Int} {r : List AV} (C : Cx D ad cy A b n xs y p R s m args c cells slots) (hok : okR 17 i) (hok2 : okR 8 i2) (ha : okZ a) (hf : fetch y pc = some .aastore) (hc : 0 ≤ a ∧ a < aLen σ 17) (K : Nx D ad cy A p l e R s m args below meth c cells slots Q (pc + 1, L, r, uR σ a (some (8, i2)))) : Nx D ad cy A p l e R s m args below meth c cells slots Q (pc, L, aR 8 i2 :: aI a :: aR 17 i :: r, σ) := by
  obtain ⟨hx, hb, hml, hown, hts, hK, hN, hap, hR, hcl, hsb, hX, hbl, hbA, hn⟩ := C
  intro H locs ls hP hS hl
  obtain ⟨h0, h1⟩ := hc
  have hi : i = 0 := by
    have h3 := hok.2.1
    have h4 := hok.2.2
    rw [show fN 17 = 1 from rfl] at h4
    omega
  subst hi
  rw [aLen_r hok] at h1
  have he : (WS ad cy σ)[ps 17 0]? = some (ad 17 0, .inl (cy 4, fL 17, .inr (.inr (.inr (.inr (fun j => (gR σ (j : Int)).map (fun q => ad q.1 q.2))))))) := by rw [WS_at hok]; rfl
  have hv : (WS ad cy σ)[ps 8 i2]? = some (ad 8 i2, .inr (3, (List.range (cS (fC 8))).map (fun k => cv ad (slv σ 8 i2 k)))) := by rw [WS_at hok2]; rfl
  refine va_astq (r := (cN 3, cT 3, cS 3)) hx hb hK hP (WS_D hap) hS (ps 17 0) 4 (ps 8 i2) 3 he rfl hv (vw_at 3 (by decide)) (o32_in ha h0 h1) (fetch_dec hf rfl (by decide)) (fun H1 locs1 hP1 hD1 hS1 => ?_)
  refine K H1 locs1 ls ?_ hS1 hl
  have e := WS_set (ad := ad) (cy := cy) (σ := σ) (σ' := uR σ a (some (8, i2))) hok (fun t' i' hr' h => by
    by_cases h17 : t' = 17
    · subst h17
      have h4 := hr'.2.2
      have h5 := hr'.2.1
      rw [show fN 17 = 1 from rfl] at h4
      exact absurd ⟨rfl, by omega⟩ h
    · exact cellOf_eq (fun _ => rfl) (fun _ => rfl) (fun q => absurd q h17))
  show va_P D vwCl (WS ad cy (uR σ a (some (8, i2)))) H1
  have e2 : cellOf ad cy (uR σ a (some (8, i2))) 17 0 = .inl (cy 4, fL 17, .inr (.inr (.inr (.inr (va_up (fun j : Nat => (gR σ (j : Int)).map (fun q => ad q.1 q.2)) a.toNat (some (ad 8 i2))))))) := by
    have e3 : (fun j : Nat => (gR (uR σ a (some (8, i2))) (j : Int)).map (fun q => ad q.1 q.2)) = va_up (fun j : Nat => (gR σ (j : Int)).map (fun q => ad q.1 q.2)) a.toNat (some (ad 8 i2)) := by
      funext j
      unfold va_up
      rw [gR_uR]
      by_cases hj : j = a.toNat
      · rw [if_pos hj, if_pos (by omega)]
        rfl
      · rw [if_neg hj, if_neg (by omega)]
    rw [← e3]
    rfl
  rw [← e, e2, ← o32_cl ha]
  exact hP1
theorem so_iastore (C : Cx D ad cy A b n xs y p R s m args c cells slots) (hL : okA L) (hst : okA st) (hM : okM σ) (hSc : Sc σ n xs) (hf : fetch y pc = some (.iastore)) (hs : stp y (.iastore) pc L st σ = some (.inl g)) (K : Nx D ad cy A p l e R s m args below meth c cells slots Q g) : Nx D ad cy A p l e R s m args below meth c cells slots Q (pc, L, st, σ) := by
  simp only [stp] at hs
  split at hs
  · split at hs
    · rename_i hc
      cases hs
      exact so_iast C (okR_of (okA_hd (okA_tl (okA_tl hst))) (hc.2.1)) (okA_hd (okA_tl hst)) hf ⟨hc.1, hc.2.2⟩ K
    · cases hs
  · cases hs
theorem so_lastore (C : Cx D ad cy A b n xs y p R s m args c cells slots) (hL : okA L) (hst : okA st) (hM : okM σ) (hSc : Sc σ n xs) (hf : fetch y pc = some (.lastore)) (hs : stp y (.lastore) pc L st σ = some (.inl g)) (K : Nx D ad cy A p l e R s m args below meth c cells slots Q g) : Nx D ad cy A p l e R s m args below meth c cells slots Q (pc, L, st, σ) := by
  simp only [stp] at hs
  split at hs
  · split at hs
    · rename_i hc
      cases hs
      exact so_last C (okR_of (okA_hd (okA_tl (okA_tl hst))) (n34 hc.1 (by decide))) (okA_hd (okA_tl hst)) hf hc K
    · cases hs
  · cases hs
theorem so_bastore (C : Cx D ad cy A b n xs y p R s m args c cells slots) (hL : okA L) (hst : okA st) (hM : okM σ) (hSc : Sc σ n xs) (hf : fetch y pc = some (.bastore)) (hs : stp y (.bastore) pc L st σ = some (.inl g)) (K : Nx D ad cy A p l e R s m args below meth c cells slots Q g) : Nx D ad cy A p l e R s m args below meth c cells slots Q (pc, L, st, σ) := by
  simp only [stp] at hs
  split at hs
  · split at hs
    · rename_i hc
      cases hs
      exact so_bast C (okR_of (okA_hd (okA_tl (okA_tl hst))) (n34 hc.1 (by decide))) (okA_hd (okA_tl hst)) hc.2.1 hf ⟨hc.1, hc.2.2⟩ K
    · cases hs
  · cases hs
theorem so_aastore (C : Cx D ad cy A b n xs y p R s m args c cells slots) (hL : okA L) (hst : okA st) (hM : okM σ) (hSc : Sc σ n xs) (hf : fetch y pc = some (.aastore)) (hs : stp y (.aastore) pc L st σ = some (.inl g)) (K : Nx D ad cy A p l e R s m args below meth c cells slots Q g) : Nx D ad cy A p l e R s m args below meth c cells slots Q (pc, L, st, σ) := by
  simp only [stp] at hs
  split at hs
  · split at hs
    · rename_i hc
      cases hs
      obtain ⟨rfl, rfl, hc⟩ := hc
      exact so_aast C (okR_of (okA_hd (okA_tl (okA_tl hst))) (by decide)) (okR_of (okA_hd hst) (by decide)) (okA_hd (okA_tl hst)) hf hc K
    · cases hs
  · cases hs
theorem so_alen {t : Nat} {i : Int} {r : List AV} (C : Cx D ad cy A b n xs y p R s m args c cells slots) (hSc : Sc σ n xs) (hok : okv (aR t i)) (hf : fetch y pc = some .arraylength) (hc : fC t = 99) (K : Nx D ad cy A p l e R s m args below meth c cells slots Q (pc + 1, L, aI (aLen σ t) :: r, σ)) : Nx D ad cy A p l e R s m args below meth c cells slots Q (pc, L, aR t i :: r, σ) := by
  obtain ⟨hx, hb, hml, hown, hts, hK, hN, hap, hR, hcl, hsb, hX, hbl, hbA, hn⟩ := C
  intro H locs ls hP hS hl
  rcases hok t i rfl with hr | ⟨rfl, rfl⟩
  · have e1 : Int32.ofNat (fL t) = Int32.ofInt (aLen σ t) := by
      rw [aLen_r hr, Int32.ofInt_eq_ofNat]
    have hT : fT t ≤ 5 := by
      have k : (List.range 34).all (fun t => decide (fC t = 99 → fT t ≤ 5)) = true := by decide +kernel
      exact of_decide_eq_true (List.all_eq_true.mp k t (List.mem_range.mpr hr.1)) hc
    have key : ∀ (k : Nat) (ty : FieldType) (x : vp_A), cellOf ad cy σ t i = .inl (cy k, x) → x.1 = fL t → (tysOf cy)[k]? = some (cy k, ty) → W p l e R s m args below meth c H locs cells slots Q (F0 m pc ls (.ref (ad t i) :: r.map (cv ad))) := by
      intro k ty x hcell hx1 hty
      exact va_alen hx hb hK hP (ps t i) k (by rw [WS_at hr, hcell]) hty (by rw [hx1]; exact e1) (fetch_dec hf rfl (by decide)) (K H locs ls hP hS hl)
    rcases (show fT t = 0 ∨ fT t = 1 ∨ fT t = 2 ∨ fT t = 3 ∨ (fT t = 4 ∨ fT t = 5) by omega) with h | h | h | h | h
    · exact key 0 _ _ (cell_int h) rfl rfl
    · exact key 1 _ _ (cell_long h) rfl rfl
    · exact key 2 _ _ (cell_bool h) rfl rfl
    · have e2 := cell_ref (ad := ad) (cy := cy) (σ := σ) (t := t) (i := i) (by omega)
      rw [if_pos h] at e2
      exact key 3 _ _ e2 rfl rfl
    · have e2 := cell_ref (ad := ad) (cy := cy) (σ := σ) (t := t) (i := i) (by omega)
      rw [if_neg (by omega)] at e2
      exact key 4 _ _ e2 rfl rfl
  · show W p l e R s m args below meth c H locs cells slots Q (F0 m pc ls (.ref (ad 34 0) :: r.map (cv ad)))
    rw [hsb]
    refine va_slen hx hb hX hbl hbA hS (fetch_dec hf rfl (by decide)) ?_
    have e1 : Value.int (Int32.ofNat n) = cv ad (aI (aLen σ 34)) := by
      show _ = Value.int (Int32.ofInt (gI σ 34 0 (-1)))
      rw [hSc.1, Int32.ofInt_eq_ofNat]
    rw [e1]
    exact K H locs ls hP hS hl
theorem so_arraylength (C : Cx D ad cy A b n xs y p R s m args c cells slots) (hL : okA L) (hst : okA st) (hM : okM σ) (hSc : Sc σ n xs) (hf : fetch y pc = some (.arraylength)) (hs : stp y (.arraylength) pc L st σ = some (.inl g)) (K : Nx D ad cy A p l e R s m args below meth c cells slots Q g) : Nx D ad cy A p l e R s m args below meth c cells slots Q (pc, L, st, σ) := by
  simp only [stp] at hs
  split at hs
  · split at hs
    · rename_i hc
      cases hs
      exact so_alen C hSc (okA_hd hst) hf hc.1 K
    · cases hs
  · cases hs
theorem brn_go {off : Int} {bb : Bool} {r : List AV} (hs : brn pc off bb L r σ = some (.inl g)) : ∃ t : Nat, (pc : Int) + off = (t : Int) ∧ g = (if bb = true then (t, L, r, σ) else (pc + 3, L, r, σ)) := by
  unfold brn at hs
  split at hs
  · rename_i t ht
    refine ⟨t, tg_at ht, ?_⟩
    split at hs
    · rename_i h
      cases hs
      rw [if_pos h]
    · rename_i h
      cases hs
      rw [if_neg h]
  · cases hs
theorem so_br {bb : Bool} {r : List AV} {t : Nat} {H : Heap} {locs : List Loc} {ls : Array Slot} {cond : Prop} (hP : va_P D vwCl (WS ad cy σ) H) (hS : va_S A s.heap H locs) (hl : LR ad L ls) (hc : bb = true ↔ cond) (K : Nx D ad cy A p l e R s m args below meth c cells slots Q (if bb = true then (t, L, r, σ) else (pc + 3, L, r, σ))) : (cond → W p l e R s m args below meth c H locs cells slots Q (F0 m t ls (r.map (cv ad)))) ∧ (¬ cond → W p l e R s m args below meth c H locs cells slots Q (F0 m (pc + 3) ls (r.map (cv ad)))) := by
  constructor
  · intro h
    rw [if_pos (hc.mpr h)] at K
    exact K H locs ls hP hS hl
  · intro h
    rw [if_neg (fun q => h (hc.mp q))] at K
    exact K H locs ls hP hS hl
theorem so_if_icmp {k : ClassFile.Cond} {off : Int} (C : Cx D ad cy A b n xs y p R s m args c cells slots) (hL : okA L) (hst : okA st) (hM : okM σ) (hSc : Sc σ n xs) (hf : fetch y pc = some (.if_icmp k off)) (hs : stp y (.if_icmp k off) pc L st σ = some (.inl g)) (K : Nx D ad cy A p l e R s m args below meth c cells slots Q g) : Nx D ad cy A p l e R s m args below meth c cells slots Q (pc, L, st, σ) := by
  simp only [stp] at hs
  split at hs
  · rename_i v u r
    obtain ⟨t, ht, rfl⟩ := brn_go hs
    have h1 := okA_hd hst
    have h2 := okA_hd (okA_tl hst)
    have h1 : okZ v := h1
    have h2 : okZ u := h2
    obtain ⟨hx, hb, hml, hown, hts, hK, hN, hap, hR, hcl, hsb, hX, hbl, hbA, hn⟩ := C
    intro H locs ls hP hS hl
    cases k
    case eq =>
      obtain ⟨k1, k2⟩ := so_br (cond := Int32.ofInt u = Int32.ofInt v) hP hS hl (bc_eq.trans (o32_eq h2 h1).symm) K
      exact lv_icmp_eq hx hb (fetch_dec hf rfl (by decide)) ht k1 k2
    case ne =>
      obtain ⟨k1, k2⟩ := so_br (cond := ¬ Int32.ofInt u = Int32.ofInt v) hP hS hl (bc_ne.trans (not_congr (o32_eq h2 h1).symm)) K
      exact lv_icmp_ne hx hb (fetch_dec hf rfl (by decide)) ht k1 (fun q => k2 (fun z => z q))
    case lt =>
      obtain ⟨k1, k2⟩ := so_br (cond := Int32.ofInt u < Int32.ofInt v) hP hS hl (bc_lt.trans (o32_lt h2 h1).symm) K
      exact lv_icmp_lt hx hb (fetch_dec hf rfl (by decide)) ht k1 k2
    case ge =>
      obtain ⟨k1, k2⟩ := so_br (cond := Int32.ofInt v ≤ Int32.ofInt u) hP hS hl (bc_ge.trans (o32_le h1 h2).symm) K
      exact lv_icmp_ge hx hb (fetch_dec hf rfl (by decide)) ht k1 k2
    case gt =>
      obtain ⟨k1, k2⟩ := so_br (cond := Int32.ofInt v < Int32.ofInt u) hP hS hl (bc_gt.trans (o32_lt h1 h2).symm) K
      exact lv_icmp_gt hx hb (fetch_dec hf rfl (by decide)) ht k1 k2
    case le =>
      obtain ⟨k1, k2⟩ := so_br (cond := Int32.ofInt u ≤ Int32.ofInt v) hP hS hl (bc_le.trans (o32_le h2 h1).symm) K
      exact lv_icmp_le hx hb (fetch_dec hf rfl (by decide)) ht k1 k2
  · cases hs
theorem so_ifCond {k : ClassFile.Cond} {off : Int} (C : Cx D ad cy A b n xs y p R s m args c cells slots) (hL : okA L) (hst : okA st) (hM : okM σ) (hSc : Sc σ n xs) (hf : fetch y pc = some (.ifCond k off)) (hs : stp y (.ifCond k off) pc L st σ = some (.inl g)) (K : Nx D ad cy A p l e R s m args below meth c cells slots Q g) : Nx D ad cy A p l e R s m args below meth c cells slots Q (pc, L, st, σ) := by
  simp only [stp] at hs
  split at hs
  · rename_i u r
    obtain ⟨t, ht, rfl⟩ := brn_go hs
    have h2 : okZ u := okA_hd hst
    have h1 : okZ 0 := okI_0
    obtain ⟨hx, hb, hml, hown, hts, hK, hN, hap, hR, hcl, hsb, hX, hbl, hbA, hn⟩ := C
    intro H locs ls hP hS hl
    cases k
    case eq =>
      obtain ⟨k1, k2⟩ := so_br (cond := Int32.ofInt u = Int32.ofInt 0) hP hS hl (bc_eq.trans (o32_eq h2 h1).symm) K
      exact lv_if_eq hx hb (fetch_dec hf rfl (by decide)) ht k1 k2
    case ne =>
      obtain ⟨k1, k2⟩ := so_br (cond := ¬ Int32.ofInt u = Int32.ofInt 0) hP hS hl (bc_ne.trans (not_congr (o32_eq h2 h1).symm)) K
      exact lv_if_ne hx hb (fetch_dec hf rfl (by decide)) ht k1 (fun q => k2 (fun z => z q))
    case lt =>
      obtain ⟨k1, k2⟩ := so_br (cond := Int32.ofInt u < Int32.ofInt 0) hP hS hl (bc_lt.trans (o32_lt h2 h1).symm) K
      exact lv_if_lt hx hb (fetch_dec hf rfl (by decide)) ht k1 k2
    case ge =>
      obtain ⟨k1, k2⟩ := so_br (cond := Int32.ofInt 0 ≤ Int32.ofInt u) hP hS hl (bc_ge.trans (o32_le h1 h2).symm) K
      exact lv_if_ge hx hb (fetch_dec hf rfl (by decide)) ht k1 k2
    case gt =>
      obtain ⟨k1, k2⟩ := so_br (cond := Int32.ofInt 0 < Int32.ofInt u) hP hS hl (bc_gt.trans (o32_lt h1 h2).symm) K
      exact lv_if_gt hx hb (fetch_dec hf rfl (by decide)) ht k1 k2
    case le =>
      obtain ⟨k1, k2⟩ := so_br (cond := Int32.ofInt u ≤ Int32.ofInt 0) hP hS hl (bc_le.trans (o32_le h2 h1).symm) K
      exact lv_if_le hx hb (fetch_dec hf rfl (by decide)) ht k1 k2
  · cases hs
theorem ad_inj {A : Nat → Prop} {ad : Nat → Int → Nat} (hap : Apart A ad) {b : Nat} (hsb : ad 34 0 = b) (hbA : ¬ A b) {q1 q2 : Option (Nat × Int)} (h1 : okQ q1) (h2 : okQ q2) : q1.map (fun q => ad q.1 q.2) = q2.map (fun q => ad q.1 q.2) ↔ q1 = q2 := by
  constructor
  · intro h
    rcases q1 with _ | ⟨t1, i1⟩ <;> rcases q2 with _ | ⟨t2, i2⟩
    · rfl
    · cases h
    · cases h
    · have h : ad t1 i1 = ad t2 i2 := Option.some.inj h
      rcases h1 t1 i1 rfl with a1 | ⟨rfl, rfl⟩ <;> rcases h2 t2 i2 rfl with a2 | ⟨rfl, rfl⟩
      · obtain ⟨rfl, rfl⟩ := hap.1 _ _ _ _ a1 a2 h
        rfl
      · exact absurd (by rw [← hsb, ← h]; exact hap.2 _ _ a1) hbA
      · exact absurd (by rw [← hsb, h]; exact hap.2 _ _ a2) hbA
      · rfl
  · intro h; rw [h]
theorem so_if_acmp {k : ClassFile.ACond} {off : Int} (C : Cx D ad cy A b n xs y p R s m args c cells slots) (hL : okA L) (hst : okA st) (hM : okM σ) (hSc : Sc σ n xs) (hf : fetch y pc = some (.if_acmp k off)) (hs : stp y (.if_acmp k off) pc L st σ = some (.inl g)) (K : Nx D ad cy A p l e R s m args below meth c cells slots Q g) : Nx D ad cy A p l e R s m args below meth c cells slots Q (pc, L, st, σ) := by
  simp only [stp] at hs
  split at hs
  · rename_i q2 q1 r
    split at hs
    · obtain ⟨t, ht, rfl⟩ := brn_go hs
      have h2 : okv (aQ q2) := okA_hd hst
      have h1 : okv (aQ q1) := okA_hd (okA_tl hst)
      have h2 : okQ q2 := h2
      have h1 : okQ q1 := h1
      obtain ⟨hx, hb, hml, hown, hts, hK, hN, hap, hR, hcl, hsb, hX, hbl, hbA, hn⟩ := C
      intro H locs ls hP hS hl
      obtain ⟨k1, k2⟩ := so_br (cond := ¬ q1.map (fun q => ad q.1 q.2) = q2.map (fun q => ad q.1 q.2)) hP hS hl (bc_qn.trans (not_congr (ad_inj hap hsb hbA h1 h2).symm)) K
      exact lv_acmp_ne hx hb (fetch_dec hf rfl (by decide)) ht k1 (fun q => k2 (fun z => z q))
    · cases hs
  · cases hs
theorem so_ifnull {off : Int} (C : Cx D ad cy A b n xs y p R s m args c cells slots) (hL : okA L) (hst : okA st) (hM : okM σ) (hSc : Sc σ n xs) (hf : fetch y pc = some (.ifnull off)) (hs : stp y (.ifnull off) pc L st σ = some (.inl g)) (K : Nx D ad cy A p l e R s m args below meth c cells slots Q g) : Nx D ad cy A p l e R s m args below meth c cells slots Q (pc, L, st, σ) := by
  simp only [stp] at hs
  split at hs
  · rename_i q r
    obtain ⟨t, ht, rfl⟩ := brn_go hs
    obtain ⟨hx, hb, hml, hown, hts, hK, hN, hap, hR, hcl, hsb, hX, hbl, hbA, hn⟩ := C
    intro H locs ls hP hS hl
    cases q with
    | none => exact lv_ifnullN hx hb (fetch_dec hf rfl (by decide)) ht (K H locs ls hP hS hl)
    | some q => exact lv_ifnull hx hb (fetch_dec hf rfl (by decide)) (K H locs ls hP hS hl)
  · cases hs
theorem so_ifnonnull {off : Int} (C : Cx D ad cy A b n xs y p R s m args c cells slots) (hL : okA L) (hst : okA st) (hM : okM σ) (hSc : Sc σ n xs) (hf : fetch y pc = some (.ifnonnull off)) (hs : stp y (.ifnonnull off) pc L st σ = some (.inl g)) (K : Nx D ad cy A p l e R s m args below meth c cells slots Q g) : Nx D ad cy A p l e R s m args below meth c cells slots Q (pc, L, st, σ) := by
  simp only [stp] at hs
  split at hs
  · rename_i q r
    obtain ⟨t, ht, rfl⟩ := brn_go hs
    obtain ⟨hx, hb, hml, hown, hts, hK, hN, hap, hR, hcl, hsb, hX, hbl, hbA, hn⟩ := C
    intro H locs ls hP hS hl
    cases q with
    | none => exact lv_ifnonnullN hx hb (fetch_dec hf rfl (by decide)) (K H locs ls hP hS hl)
    | some q => exact lv_ifnonnull hx hb (fetch_dec hf rfl (by decide)) ht (K H locs ls hP hS hl)
  · cases hs
theorem so_goto {off : Int} (C : Cx D ad cy A b n xs y p R s m args c cells slots) (hL : okA L) (hst : okA st) (hM : okM σ) (hSc : Sc σ n xs) (hf : fetch y pc = some (.goto off)) (hs : stp y (.goto off) pc L st σ = some (.inl g)) (K : Nx D ad cy A p l e R s m args below meth c cells slots Q g) : Nx D ad cy A p l e R s m args below meth c cells slots Q (pc, L, st, σ) := by
  simp only [stp] at hs
  split at hs
  · rename_i t ht
    cases hs
    obtain ⟨hx, hb, hml, hown, hts, hK, hN, hap, hR, hcl, hsb, hX, hbl, hbA, hn⟩ := C
    intro H locs ls hP hS hl
    exact lv_goto hx hb (fetch_dec hf rfl (by decide)) (tg_at ht) (K H locs ls hP hS hl)
  · cases hs
theorem so_tableswitch {d lo hi : Int} {offs : Array Int} (C : Cx D ad cy A b n xs y p R s m args c cells slots) (hL : okA L) (hst : okA st) (hM : okM σ) (hSc : Sc σ n xs) (hf : fetch y pc = some (.tableswitch d lo hi offs)) (hs : stp y (.tableswitch d lo hi offs) pc L st σ = some (.inl g)) (K : Nx D ad cy A p l e R s m args below meth c cells slots Q g) : Nx D ad cy A p l e R s m args below meth c cells slots Q (pc, L, st, σ) := by
  simp only [stp] at hs
  split at hs
  · rename_i a r
    have ha : okZ a := okA_hd hst
    obtain ⟨len, hd⟩ := fetch_sw hf
    obtain ⟨hx, hb, hml, hown, hts, hK, hN, hap, hR, hcl, hsb, hX, hbl, hbA, hn⟩ := C
    intro H locs ls hP hS hl
    split at hs
    · rename_i ho
      split at hs
      · rename_i t ht
        cases hs
        exact lv_tableOut hx hb hd (by rw [o32_id ha]; exact ho) (tg_at ht) (K H locs ls hP hS hl)
      · cases hs
    · rename_i ho
      split at hs
      · rename_i off hoff
        split at hs
        · rename_i t ht
          cases hs
          exact lv_tableIn hx hb hd (by rw [o32_id ha]; omega) (by rw [o32_id ha]; omega) (by rw [o32_id ha]; exact hoff) (tg_at ht) (K H locs ls hP hS hl)
        · cases hs
      · cases hs
  · cases hs
end SND
