/-! the maker is sound: making, storing -/
def isRT (ty : FieldType) : Bool := match ty with
  | .object _ | .array _ => true
  | _ => false
theorem ty_tab : ∀ c, c < 10 → ∀ k, k < cS c → (sK c k = 0 ∧ cY c k = .int) ∨ (sK c k = 1 ∧ cY c k = .boolean) ∨ (sK c k = 3 ∧ cY c k = .int) ∨ (sK c k = 2 ∧ isRT (cY c k) = true) := lt10 (by decide +kernel) (by decide +kernel) (by decide +kernel) (by decide +kernel) (by decide +kernel) (by decide +kernel) (by decide +kernel) (by decide +kernel) (by decide +kernel) (by decide +kernel)
theorem fin_tab : ∀ c, c < 10 → ∀ k, k < cS c → (cT c k).2.2.2 = true → (cT c k).1 = cN c := lt10 (by decide +kernel) (by decide +kernel) (by decide +kernel) (by decide +kernel) (by decide +kernel) (by decide +kernel) (by decide +kernel) (by decide +kernel) (by decide +kernel) (by decide +kernel)
theorem isRT_fit {ty : FieldType} (h : isRT ty = true) (a : Nat) : narrow ty (.ref a) = .ref a ∧ fits ty (.ref a) = true ∧ defaultValue ty = .null := by
  cases ty <;> first | exact ⟨rfl, rfl, rfl⟩ | cases h
theorem dfl_ok (f : Nat → Nat) {c : Nat} (hc : c < 10) : ∀ j, j < cS c → defaultValue (cY c j) = vp_V ((dfl c).map (cv (bad f))) j := by
  intro j hj
  have e : ((dfl c).map (cv (bad f)))[j]? = some (cv (bad f) (if sK c j = 2 then aN else aI 0)) := by
    unfold dfl
    rw [List.getElem?_map, List.getElem?_map, List.getElem?_range hj]
    rfl
  unfold vp_V
  rw [List.getD_eq_getElem?_getD, e]
  rcases ty_tab c hc j hj with ⟨h1, h2⟩ | ⟨h1, h2⟩ | ⟨h1, h2⟩ | ⟨h1, h2⟩
  · rw [h2, h1]; rfl
  · rw [h2, h1]; rfl
  · rw [h2, h1]; rfl
  · rw [(isRT_fit h2 0).2.2, h1]; rfl
theorem dfl_len (c : Nat) : (dfl c).length = cS c := by
  unfold dfl
  rw [List.length_map, List.length_range]
theorem bokW_1 {w : List bE} {L st : List AV} (h : bokW w L st = true) : L.all (bok w.length) = true ∧ st.all (bok w.length) = true := by
  unfold bokW at h
  rw [Bool.and_eq_true] at h
  exact h
section MK2
variable {p : Program} {l : Launch} {e : Env} {R : Room} {s : State} {m : MethodId} {args : Array Value} {below : List Frame} {meth : Method} {c : Code} {Q : State → Prop}
variable {D : va_G} {cy : Nat → ClassId} {base c0 s0 : Nat} {f0 : Nat → Nat} {vx : Option Value} {y pc : Nat} {L st : List AV} {w : bD} {g : bG}
/-- one cell more, on the way on -/
theorem bpush {e0 : bE} {pc' k : Nat} {r : List AV} (k1 : bokV w.1) (hok : bokW w.1 L r = true) (h0 : c0 ≤ w.1.length ∧ s0 ≤ w.2) (K : BNg D cy base c0 s0 f0 vx p l e R s m args below meth c Q pc' L (aR w.1.length 0 :: r) (w.1 ++ [e0], w.2 + k)) {f : Nat → Nat} (hqf : ∀ k, k < c0 → f k = f0 k) {ls : Array Slot} (hl : LR (bad f) L ls) (hX : Xl vx ls) {v : va_E} {q : Nat} (hv : ∀ f', bM f' cy e0 = v) {H1 : Heap} {locs : List Loc} (hP : va_P D vwCl (bWS f cy w.1 ++ [(q, v)]) H1) (hD : va_D (bA base) (bWS f cy w.1 ++ [(q, v)])) (hS : va_S (bA base) s.heap H1 locs) :
    W p l e R s m args below meth c H1 locs (w.1.length - c0 + 1) (w.2 - s0 + k) Q (F0 m pc' ls (.ref q :: r.map (cv (bad f)))) := by
  obtain ⟨k2, k3⟩ := bokW_1 hok
  have hf : ∀ k, k < w.1.length → bup f w.1.length q k = f k := bup_lt
  have e1 : bWS (bup f w.1.length q) cy (w.1 ++ [e0]) = bWS f cy w.1 ++ [(q, v)] := by rw [bWS_push, bup_n, hv, bWS_ext hf k1]
  have := K (bup f w.1.length q) (fun k hk => (bup_lt k (by omega)).trans (hqf k hk)) H1 locs ls (by dsimp only; rw [e1]; exact hP) (by dsimp only; rw [e1]; exact hD) hS (LR_ext hf k2 hl) hX
  dsimp only at this
  have e2 : (w.1 ++ [e0]).length - c0 = w.1.length - c0 + 1 := by rw [List.length_append]; show w.1.length + 1 - c0 = _; omega
  have e3 : w.2 + k - s0 = w.2 - s0 + k := by omega
  rw [e2, e3, List.map_cons, cvs_ext hf k3] at this
  have e4 : cv (bad (bup f w.1.length q)) (aR w.1.length 0) = .ref q := by
    show va_rf (some (bup f w.1.length q w.1.length)) = _
    rw [bup_n]
    rfl
  rw [e4] at this
  exact this
theorem bo_new {x c' p1 p2 : Nat} (C : BX D cy base y p R s m args meth c) (hf : bfe y pc = some (.new x)) (hs : bsi (mC y) x = some (0, c', p1, p2)) (hV : bokV w.1) (hok : bokW w.1 L st = true) (h0 : c0 ≤ w.1.length ∧ s0 ≤ w.2) (hr : w.1.length + 1 - c0 ≤ R.cells ∧ w.2 + cS c' - s0 ≤ R.slots) (K : BNg D cy base c0 s0 f0 vx p l e R s m args below meth c Q (pc + 3) L (aR w.1.length 0 :: st) (w.1 ++ [.inr (c', dfl c')], w.2 + cS c')) : BNg D cy base c0 s0 f0 vx p l e R s m args below meth c Q pc L st w := by
  obtain ⟨hx, hb, hml, hown, hts, hK, hN, hR, hi, hbs⟩ := C
  intro f hqf H locs ls hP hD hS hl hX
  have hw := bsi_ok hs
  simp only [bwk, Bool.and_eq_true, decide_eq_true_eq] at hw
  obtain ⟨⟨h10, w1⟩, w2⟩ := hw
  refine va_new (D := D) (C := cN c') (T := cT c') (N := cS c') (fs := (dfl c').map (cv (bad f))) hx hb hts (cwTB h10) (cY c') (cY_ok _ h10) hown (hts _ (inTB (wP_mem w1) rfl)) (hts _ (inTB (wP_mem w2) rfl)) (hts _ (ini_in (by omega))) hK hP hD hS (fun q hq => Nat.le_trans hbs hq) (vw_at _ h10) (dfl_ok f h10) (by dsimp only; omega) (by dsimp only; omega) (bfe_dec hf rfl) (fun q H1 hP1 hD1 hS1 => ?_)
  exact bpush hV hok h0 K hqf hl hX (fun f' => by
    show Sum.inr (c', (dfl c').map (cv (bad f'))) = Sum.inr (c', (dfl c').map (cv (bad f)))
    rw [cvs_ext (n := 0) (f := f) (f' := f') (fun k hk => absurd hk (by omega)) (dfl_bok c')]) hP1 hD1 hS1
theorem bo_objI {x a p1 p2 : Nat} {q : Nat × Int} {r : List AV} (C : BX D cy base y p R s m args meth c) (hf : bfe y pc = some (.invokespecial x)) (hs : bsi (mC y) x = some (2, a, p1, p2)) (hk : cats r ≤ 8 ∧ L.length = mL y ∧ 1 ≤ bFr y ∧ 20 ≤ bWd y) (K : BNg D cy base c0 s0 f0 vx p l e R s m args below meth c Q (pc + 3) L r w) : BNg D cy base c0 s0 f0 vx p l e R s m args below meth c Q pc L (aQ (some q) :: r) w := by
  obtain ⟨hx, hb, hml, hown, hts, hK, hN, hR, hi, hbs⟩ := C
  intro f hqf H locs ls hP hD hS hl hX
  have hw := bsi_ok hs
  simp only [bwk, decide_eq_true_eq] at hw
  have hcat := Nat.le_trans (cats_le (ad := bad f) (r := r)) hk.1
  exact W.objInit (g := F0 m pc ls (.ref (f q.1) :: r.map (cv (bad f)))) hx hb hown (hts _ (inTB (wP_mem hw) rfl)) (hts _ (inTB (wP_mem bOI_ok.1) rfl)) (hts _ (inTB (wP_mem bOI_ok.2) rfl)) rfl (by show ls.size = c.maxLocals; rw [hl.1, hml]; exact hk.2.1) rfl (bfe_dec hf rfl) (Nat.le_trans hk.2.2.1 hR.1) (by show 2 * 0 + _ + 12 ≤ _; have := hR.2; omega) (K f hqf H locs ls hP hD hS hl hX)
theorem bfit_ok (f : Nat → Nat) {c k : Nat} (hc : c < 10) (hk : k < cS c) {v : AV} (h : bfit c k v = true) : narrow (cY c k) (cv (bad f) v) = cv (bad f) v ∧ fits (cY c k) (cv (bad f) v) = true := by
  unfold bfit at h
  rcases ty_tab c hc k hk with ⟨h1, h2⟩ | ⟨h1, h2⟩ | ⟨h1, h2⟩ | ⟨h1, h2⟩
  · rw [h2]
    rw [h1] at h
    rcases v with a | x | q | u
    · exact ⟨rfl, rfl⟩
    · cases h
    · cases q <;> cases h
    · cases h
  · rw [h2]
    rw [h1] at h
    rcases v with a | x | q | u
    · exact ⟨narB h, fitB h⟩
    · cases h
    · cases q <;> cases h
    · cases h
  · rw [h2]
    rw [h1] at h
    rcases v with a | x | q | u
    · exact ⟨rfl, rfl⟩
    · cases h
    · cases q <;> cases h
    · cases h
  · rw [h1] at h
    rcases v with a | x | q | u
    · cases h
    · cases h
    · cases q with
      | none => cases h
      | some q => exact ⟨(isRT_fit h2 (f q.1)).1, (isRT_fit h2 (f q.1)).2.1⟩
    · cases h
theorem bo_putfield {x k c' : Nat} {q : Nat × Int} {fs : List AV} {v : AV} {r : List AV} (C : BX D cy base y p R s m args meth c) (hf : bfe y pc = some (.putfield x)) (hfl : fld (mC y) x = some (c', k)) (hw : w.1[q.1]? = some (.inr (c', fs))) (hk2 : k < fs.length) (hb2 : bfit c' k v = true) (hc : c' = mC y ∨ (cT c' k).2.2.2 = false) (K : BNg D cy base c0 s0 f0 vx p l e R s m args below meth c Q (pc + 3) L r (w.1.set q.1 (.inr (c', fs.set k v)), w.2)) : BNg D cy base c0 s0 f0 vx p l e R s m args below meth c Q pc L (v :: aQ (some q) :: r) w := by
  obtain ⟨hx, hb, hml, hown, hts, hK, hN, hR, hi, hbs⟩ := C
  intro f hqf H locs ls hP hD hS hl hX
  obtain ⟨h10, hk, hww⟩ := fld_ok hfl
  obtain ⟨g1, g2⟩ := bfit_ok f h10 hk hb2
  have hlen : (w.1.set q.1 (.inr (c', fs.set k v))).length = w.1.length := List.length_set ..
  have e1 : (Sum.inr (c', (fs.map (cv (bad f))).set k (cv (bad f) v)) : va_E) = bM f cy (.inr (c', fs.set k v)) := by
    show _ = Sum.inr (c', (fs.set k v).map (cv (bad f)))
    rw [List.map_set]
  have fin : ∀ (H1 : Heap) (locs1 : List Loc), va_P D vwCl ((bWS f cy w.1).set q.1 (f q.1, .inr (c', (fs.map (cv (bad f))).set k (cv (bad f) v)))) H1 → va_D (bA base) ((bWS f cy w.1).set q.1 (f q.1, .inr (c', (fs.map (cv (bad f))).set k (cv (bad f) v)))) → va_S (bA base) s.heap H1 locs1 → W p l e R s m args below meth c H1 locs1 (w.1.length - c0) (w.2 - s0) Q (F0 m (pc + 3) ls (r.map (cv (bad f)))) := fun H1 locs1 hP1 hD1 hS1 => by
    rw [e1, bWS_set] at hP1 hD1
    have := K f hqf H1 locs1 ls hP1 hD1 hS1 hl hX
    dsimp only at this
    rw [hlen] at this
    exact this
  cases hfin : (cT c' k).2.2.2 with
  | false => exact va_put (D := D) (C := cN c') (T := cT c') (N := cS c') hx hb hts (cwTB h10) (cY c') (cY_ok _ h10) (cN_ap _ h10) hown hK hP hD hS q.1 (bWS_at hw) (vw_at _ h10) k hk (hts _ (inTB hww rfl)) (fun _ h9 => h9) hfin (cY_ok _ h10 k hk) g1 g2 (by rw [List.length_map]; exact hk2) (bfe_dec hf rfl) fin
  | true =>
    have hcm : c' = mC y := hc.resolve_right (fun z => by rw [hfin] at z; cases z)
    have hy : meth.name = "<init>" := hi.resolve_left (fun z => by
      rw [z] at hcm
      have : mC 213 = 12 := by decide +kernel
      omega)
    exact va_putF (D := D) (C := cN c') (T := cT c') (N := cS c') hx hb hts (cwTB h10) (cY c') (cY_ok _ h10) (cN_ap _ h10) hown hK hP hD hS q.1 (bWS_at hw) (vw_at _ h10) k hk (hts _ (inTB hww rfl)) (fun _ h9 => h9) hfin hy (by rw [fin_tab _ h10 k hk hfin, hcm]) (cY_ok _ h10 k hk) g1 g2 (by rw [List.length_map]; exact hk2) (bfe_dec hf rfl) fin
end MK2
