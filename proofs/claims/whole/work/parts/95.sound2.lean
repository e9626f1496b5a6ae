section SND2
variable {p : Program} {l : Launch} {e : Env} {R : Room} {s : State} {m : MethodId} {args : Array Value} {below : List Frame} {meth : Method} {c : Code} {cells slots : Nat} {Q : State → Prop}
variable {D : va_G} {ad : Nat → Int → Nat} {cy : Nat → ClassId} {A : Nat → Prop} {b n : Nat} {xs : Nat → Int32} {y pc : Nat} {L st : List AV} {σ : aM} {g : aG}
def mWs (y : Nat) : List Cond := Cond.code (mNm y) (mCd y) (mL y) (mRt y) :: TB
def mRm (y : Nat) : Room := { frames := mF y, cells := 0, slots := 0, locals := mW y }
def mPc (D : va_G) (ad : Nat → Int → Nat) (cy : Nat → ClassId) (b n : Nat) (xs : Nat → Int32) (as : List AV) (σ : aM) : Array Value → State → Prop := va_Pc (as.map (cv ad)) (fun U => va_P D vwCl (WS ad cy σ) U.heap ∧ va_K D vwCl (tysOf cy) U ∧ NW U ∧ va_X b n xs U U.heap ∧ b < U.heap.size)
def mQc (D : va_G) (ad : Nat → Int → Nat) (cy : Nat → ClassId) (A : Nat → Prop) (v : Option AV) (σ' : aM) : Array Value → State → Outcome → State → Prop := fun _ st o t => o = .returned (v.map (cv ad)) ∧ va_P D vwCl (WS ad cy σ') t.heap ∧ va_F A st t
theorem TB_in {ws : List Cond} (h : ∀ w ∈ ws, w ∈ TB) : GoodIn TB ws := fun w hw => ⟨h w hw, good_of_word (TB_good (h w hw))⟩
theorem mWs_in {y : Nat} (h : y < 213) : ∀ w ∈ mWs y, w ∈ TB := fun w hw => (List.mem_cons.mp hw).elim (fun q => q ▸ inTB (m_code h) rfl) id
theorem mPc_blind {as : List AV} {σ : aM} : FrameBlind (mPc D ad cy b n xs as σ) := fun a U g mk q => by
  obtain ⟨q0, qP, qK, qN, qX, qb⟩ := q
  exact ⟨q0, qP, va_K.moved (u := U) (U := U.calling g mk a) (Vm.Alike.refl U.vm) qK, NW.same (s := U) (U := U.calling g mk a) rfl qN, va_X.moved (u := U) (U := U.calling g mk a) (Vm.Alike.refl U.vm) qX, qb⟩
abbrev MetOf (l : Launch) (D : va_G) (ad : Nat → Int → Nat) (cy : Nat → ClassId) (A : Nat → Prop) (b n : Nat) (xs : Nat → Int32) (y : Nat) (as : List AV) (σ : aM) (v : Option AV) (σ' : aM) : Prop := Met l (mNm y) (mWs y) (mRm y) (mPc D ad cy b n xs as σ) (mQc D ad cy A v σ') 0 0 A
theorem so_back {v : Option AV} {σ' : aM} {r : List AV} {as' : Array Value} {H : Heap} {locs : List Loc} {ls : Array Slot} {st0 : List Value} (hS : va_S A s.heap H locs) (hl : LR ad L ls) (hr : va_Run p l e R s m args below meth c H locs cells slots 0 0 (F0 m pc ls st0) (r.map (cv ad)) (mQc D ad cy A v σ' as') A) (K : Nx D ad cy A p l e R s m args below meth c cells slots Q (pc + 3, L, v.toList ++ r, σ')) : W p l e R s m args below meth c H locs cells slots Q (F0 m pc ls st0) := by
  intro T hT X
  obtain ⟨v', st₀, t, T', L', h0, X', hL', e1, e2, ⟨hv, hP', hz, hk⟩, st⟩ := hr T hT X
  have hv : v' = v.map (cv ad) := Outcome.returned.inj hv
  subst hv
  rw [h0] at hz hk
  obtain ⟨t2, a1, b1⟩ := K T'.heap (locs ++ L') ls (by rw [e1]; exact hP') ⟨Nat.le_trans hS.1 (by rw [e1]; exact hz), fun q h1 h2 => by rw [e1, hk q (Nat.lt_of_lt_of_le h1 hS.1) h2]; exact hS.2.1 q h1 h2, fun q hq => (List.mem_append.mp hq).elim (hS.2.2 q) (hL' q)⟩ hl T' rfl X'
  refine ⟨t2, st t2 ?_, b1⟩
  have e3 : (v.map (cv ad)).toList ++ r.map (cv ad) = (v.toList ++ r).map (cv ad) := by cases v <;> rfl
  rw [e3]
  exact a1
theorem okC {y y' : Nat} {L r as : List AV} (h : okCall y y' L r as = true) : L.length = mL y ∧ mF y' + 1 ≤ mF y ∧ 8 + (mL y' + 11) + mW y' ≤ mW y ∧ cats r ≤ 8 ∧ (lay as).length ≤ mL y' := by
  unfold okCall at h
  simp only [Bool.and_eq_true, decide_eq_true_eq] at h
  exact ⟨h.1.1.1.1, h.1.1.1.2, h.1.1.2, h.1.2, h.2⟩
theorem cats_le {r : List AV} : ((r.map (cv ad)).map fun v => v.category).sum ≤ cats r := by
  induction r with
  | nil => exact Nat.le_refl _
  | cons a r ih =>
    show (cv ad a).category + _ ≤ cat a + cats r
    have : (cv ad a).category ≤ cat a := by
      rcases a with a | x | q | u
      · exact Nat.le_refl _
      · exact Nat.le_refl _
      · cases q <;> exact Nat.le_refl _
      · show 1 ≤ 9
        omega
    exact Nat.add_le_add this ih
theorem mNm_ok {y : Nat} (h : y < 213) : plainName (mNm y).cls = true ∧ (mNm y).cls ≠ "java/lang/invoke/MethodHandle" ∧ (mNm y).cls ≠ "java/lang/invoke/VarHandle" ∧ mC y < 12 := by
  have := m_ok h
  unfold mOk at this
  simp only [Bool.and_eq_true, decide_eq_true_eq] at this
  exact ⟨this.1.1.1, this.1.1.2, this.1.2, this.2⟩
theorem ini_in {c : Nat} (h : c < 12) : Cond.initialized (cN c) ∈ TB := inTB (wP_mem (ini_ok c h)) rfl
theorem so_callV {y' x k t : Nat} {i : Int} {r : List AV} {v : Option AV} {σ' : aM} (C : Cx D ad cy A b n xs y p R s m args c cells slots) (hst : okA st) (hf : fetch y pc = some (.invokevirtual x)) (hsite : site (mC y) x = some (0, k, y')) (hd : st.drop k = aR t i :: r) (ht : fC t = mC y') (hk : k ≤ st.length) (hok : okCall y y' L r (aR t i :: (st.take k).reverse) = true) (hM : MetOf l D ad cy A b n xs y' (aR t i :: (st.take k).reverse) σ v σ') (K : Nx D ad cy A p l e R s m args below meth c cells slots Q (pc + 3, L, v.toList ++ r, σ')) : Nx D ad cy A p l e R s m args below meth c cells slots Q (pc, L, st, σ) := by
  obtain ⟨hx, hb, hml, hown, hts, hK, hN, hap, hR, hcl, hsb, hX, hbl, hbA, hn⟩ := id C
  intro H locs ls hP hS hl
  obtain ⟨o1, o2, o3, o4, o5⟩ := okC hok
  obtain ⟨p0, hs⟩ := site_ok hsite
  simp only [siteOk, Bool.and_eq_true, decide_eq_true_eq] at hs
  obtain ⟨⟨⟨⟨⟨s1, s2⟩, s3⟩, s4⟩, s5⟩, s6⟩ := hs
  have est : st.map (cv ad) = ((st.take k).reverse.map (cv ad)).reverse ++ .ref (ad t i) :: r.map (cv ad) := by
    have h1 := List.take_append_drop k st
    rw [hd] at h1
    rw [List.map_reverse, List.reverse_reverse]
    have h2 : st.map (cv ad) = ((st.take k) ++ (aR t i :: r)).map (cv ad) := by rw [h1]
    rw [h2, List.map_append]
    rfl
  have hr : okR t i := okR_of (by
    have h1 := okA_drop hst k
    rw [hd] at h1
    exact okA_hd h1) (by
    rintro rfl
    rw [← ht] at s2
    exact fC34 s2)
  obtain ⟨n1, n2, n3, n4⟩ := mNm_ok s1
  have hcls : (mNm y').cls = cN (mC y') := rfl
  have he : (WS ad cy σ)[ps t i]? = some (ad t i, .inr (fC t, (List.range (cS (fC t))).map (fun k => cv ad (slv σ t i k)))) := by rw [WS_at hr, cell_obj (by rw [ht]; exact s2)]
  have hgood : GoodIn TB (wsV (cN (mC y)) x (cN (mC y')) (mNm y') (mWs y')) := TB_in (by
    intro w hw
    unfold wsV at hw
    rcases List.mem_append.mp hw with hw | hw
    · simp only [List.mem_cons, List.not_mem_nil, or_false] at hw
      rcases hw with rfl | rfl | rfl | rfl
      · exact inTB (wP_mem s4) rfl
      · exact inTB (wP_mem s5) rfl
      · exact inTB (wP_mem s6) rfl
      · exact ini_in n4
    · exact mWs_in s1 w hw)
  have hlen : ((st.take k).reverse.map (cv ad)).length = k := by
    rw [List.length_map, List.length_reverse, List.length_take]
    omega
  refine so_back hS hl (va_runV (As := (st.take k).reverse.map (cv ad)) (b := ad t i) (C := cN (mC y')) (n := k) ⟨hx, hb, hml, hown, hts⟩ hM (cwV k hts hgood rfl rfl rfl ⟨hcls, n2, n3, s3⟩ ⟨Nat.le_trans o2 hR.1, Nat.le_trans o3 hR.2⟩) ⟨mPc_blind, va_recv hK hP (q := (cN (mC y'), cT (mC y'), cS (mC y'))) (by rw [ht]; exact vw_at _ s2) he, fun U hU hW => ⟨rfl, by rw [hU]; exact hP, va_K.moved hW.alike hK, NW.moved hW hN, ?_, ?_⟩⟩ rfl hlen (hl.1.trans o1) est (lv_room (Nat.le_trans cats_le o4)) (fetch_dec hf rfl (by decide)) hcl) K
  · rw [hU]
    exact va_X.moved hW.alike (hX.kept (hS.2.1 b hbl hbA))
  · rw [hU]
    exact Nat.lt_of_lt_of_le hbl hS.1
theorem so_callS {y' x k : Nat} {v : Option AV} {σ' : aM} (C : Cx D ad cy A b n xs y p R s m args c cells slots) (hf : fetch y pc = some (.invokestatic x)) (hsite : site (mC y) x = some (1, k, y')) (hk : k ≤ st.length) (hok : okCall y y' L (st.drop k) ((st.take k).reverse) = true) (hM : MetOf l D ad cy A b n xs y' ((st.take k).reverse) σ v σ') (K : Nx D ad cy A p l e R s m args below meth c cells slots Q (pc + 3, L, v.toList ++ st.drop k, σ')) : Nx D ad cy A p l e R s m args below meth c cells slots Q (pc, L, st, σ) := by
  obtain ⟨hx, hb, hml, hown, hts, hK, hN, hap, hR, hcl, hsb, hX, hbl, hbA, hn⟩ := id C
  intro H locs ls hP hS hl
  obtain ⟨o1, o2, o3, o4, o5⟩ := okC hok
  obtain ⟨p0, hs⟩ := site_ok hsite
  simp only [siteOk, Bool.and_eq_true, decide_eq_true_eq] at hs
  obtain ⟨⟨⟨s1, s3⟩, s4⟩, s5⟩ := hs
  have est : st.map (cv ad) = ((st.take k).reverse.map (cv ad)).reverse ++ (st.drop k).map (cv ad) := by
    rw [List.map_reverse, List.reverse_reverse, ← List.map_append, List.take_append_drop]
  obtain ⟨n1, n2, n3, n4⟩ := mNm_ok s1
  have hgood : GoodIn TB (va_wsS (cN (mC y)) x (mNm y') (mWs y')) := TB_in (by
    intro w hw
    unfold va_wsS at hw
    rcases List.mem_append.mp hw with hw | hw
    · simp only [List.mem_cons, List.not_mem_nil, or_false] at hw
      rcases hw with rfl | rfl | rfl
      · exact inTB (wP_mem s4) rfl
      · exact inTB (wP_mem s5) rfl
      · exact ini_in n4
    · exact mWs_in s1 w hw)
  have hlen : ((st.take k).reverse.map (cv ad)).length = k := by
    rw [List.length_map, List.length_reverse, List.length_take]
    omega
  refine so_back hS hl (va_runS (As := (st.take k).reverse.map (cv ad)) (n := k) ⟨hx, hb, hml, hown, hts⟩ hM (va_cwS k hts hgood rfl rfl rfl ⟨n2, n3, s3⟩ ⟨Nat.le_trans o2 hR.1, Nat.le_trans o3 hR.2⟩) ⟨mPc_blind, fun U hU hW => ⟨rfl, by rw [hU]; exact hP, va_K.moved hW.alike hK, NW.moved hW hN, ?_, ?_⟩⟩ rfl hlen (hl.1.trans o1) est (lv_room (Nat.le_trans cats_le o4)) (fetch_dec hf rfl (by decide)) hcl) K
  · rw [hU]
    exact va_X.moved hW.alike (hX.kept (hS.2.1 b hbl hbA))
  · rw [hU]
    exact Nat.lt_of_lt_of_le hbl hS.1
theorem so_callN {y' x k : Nat} {v : Option AV} {σ' : aM} (C : Cx D ad cy A b n xs y p R s m args c cells slots) (hf : fetch y pc = some (.invokestatic x)) (hsite : site (mC y) x = some (2, k, y')) (hk : k ≤ st.length) (hok : okCall y y' L (st.drop k) ((st.take k).reverse) = true) (hM : MetOf l D ad cy A b n xs y' ((st.take k).reverse) σ v σ') (K : Nx D ad cy A p l e R s m args below meth c cells slots Q (pc + 3, L, v.toList ++ st.drop k, σ')) : Nx D ad cy A p l e R s m args below meth c cells slots Q (pc, L, st, σ) := by
  obtain ⟨hx, hb, hml, hown, hts, hK, hN, hap, hR, hcl, hsb, hX, hbl, hbA, hn⟩ := id C
  intro H locs ls hP hS hl
  obtain ⟨o1, o2, o3, o4, o5⟩ := okC hok
  obtain ⟨p0, hs⟩ := site_ok hsite
  simp only [siteOk, Bool.and_eq_true, decide_eq_true_eq] at hs
  obtain ⟨⟨⟨s1, s3⟩, s4⟩, s5⟩ := hs
  have est : st.map (cv ad) = ((st.take k).reverse.map (cv ad)).reverse ++ (st.drop k).map (cv ad) := by
    rw [List.map_reverse, List.reverse_reverse, ← List.map_append, List.take_append_drop]
  obtain ⟨n1, n2, n3, n4⟩ := mNm_ok s1
  have hlen : ((st.take k).reverse.map (cv ad)).length = k := by
    rw [List.length_map, List.length_reverse, List.length_take]
    omega
  refine so_back hS hl (va_runSN (As := (st.take k).reverse.map (cv ad)) (n := k) ⟨hx, hb, hml, hown, hts⟩ hM ⟨va_cnB k hts (TB_in (mWs_in s1)) rfl rfl rfl (hN _ _ _ _ hsite) (hts _ (ini_in n4)) ⟨n2, n3, s3⟩ ⟨Nat.le_trans o2 hR.1, Nat.le_trans o3 hR.2⟩, hts _ (inTB (wP_mem s5) rfl), trivial⟩ ⟨mPc_blind, fun U hU hW => ⟨rfl, by rw [hU]; exact hP, va_K.moved hW.alike hK, NW.moved hW hN, ?_, ?_⟩⟩ rfl hlen (hl.1.trans o1) est (lv_room (Nat.le_trans cats_le o4)) (fetch_dec hf rfl (by decide)) hcl) K
  · rw [hU]
    exact va_X.moved hW.alike (hX.kept (hS.2.1 b hbl hbA))
  · rw [hU]
    exact Nat.lt_of_lt_of_le hbl hS.1
/-- Math.min, Math.abs, System.arraycopy -/
theorem so_min {x : Nat} {k : Nat × Nat} {a z : Int} {r : List AV} (C : Cx D ad cy A b n xs y p R s m args c cells slots) (ha : okZ a) (hz : okZ z) (hf : fetch y pc = some (.invokestatic x)) (hsite : site (mC y) x = some (4, k)) (h1 : 1 ≤ mF y) (h2 : cats r + 13 ≤ mW y) (h3 : L.length = mL y) (K : Nx D ad cy A p l e R s m args below meth c cells slots Q (pc + 3, L, aI (if z < a then z else a) :: r, σ)) : Nx D ad cy A p l e R s m args below meth c cells slots Q (pc, L, aI z :: aI a :: r, σ) := by
  obtain ⟨hx, hb, hml, hown, hts, hK, hN, hap, hR, hcl, hsb, hX, hbl, hbA, hn⟩ := id C
  intro H locs ls hP hS hl
  obtain ⟨p0, hs⟩ := site_ok hsite
  simp only [siteOk, decide_eq_true_eq] at hs
  refine va_mmin hx hb (hml.trans (h3.symm.trans hl.1.symm)) hown (hts _ (inTB (wP_mem hs) rfl)) (hts _ mth_ok.1.1) (hts _ (ini_in (by decide : 11 < 12))) (hts _ mth_ok.1.2) (Nat.le_trans h1 hR.1) (Nat.le_trans (Nat.add_le_add_right cats_le 13) (Nat.le_trans h2 hR.2)) hcl.1 hcl.2 (fetch_dec hf rfl (by decide)) ?_
  have e1 : Value.int (if Int32.ofInt z < Int32.ofInt a then Int32.ofInt z else Int32.ofInt a) = cv ad (aI (if z < a then z else a)) := by
    show _ = Value.int (Int32.ofInt _)
    by_cases h : z < a
    · rw [if_pos h, if_pos ((o32_lt hz ha).mpr h)]
    · rw [if_neg h, if_neg (fun q => h ((o32_lt hz ha).mp q))]
  rw [e1]
  exact K H locs ls hP hS hl
theorem so_abs {x : Nat} {k : Nat × Nat} {a : Int} {r : List AV} (C : Cx D ad cy A b n xs y p R s m args c cells slots) (ha : okZ a) (hf : fetch y pc = some (.invokestatic x)) (hsite : site (mC y) x = some (5, k)) (h1 : 1 ≤ mF y) (h2 : cats r + 13 ≤ mW y) (h3 : L.length = mL y) (K : Nx D ad cy A p l e R s m args below meth c cells slots Q (pc + 3, L, aI (if 0 ≤ a then a else wr (0 - a)) :: r, σ)) : Nx D ad cy A p l e R s m args below meth c cells slots Q (pc, L, aI a :: r, σ) := by
  obtain ⟨hx, hb, hml, hown, hts, hK, hN, hap, hR, hcl, hsb, hX, hbl, hbA, hn⟩ := id C
  intro H locs ls hP hS hl
  obtain ⟨p0, hs⟩ := site_ok hsite
  simp only [siteOk, decide_eq_true_eq] at hs
  refine va_mabs hx hb (hml.trans (h3.symm.trans hl.1.symm)) hown (hts _ (inTB (wP_mem hs) rfl)) (hts _ mth_ok.2.1) (hts _ (ini_in (by decide : 11 < 12))) (hts _ mth_ok.2.2) (Nat.le_trans h1 hR.1) (Nat.le_trans (Nat.add_le_add_right cats_le 13) (Nat.le_trans h2 hR.2)) hcl.1 hcl.2 (fetch_dec hf rfl (by decide)) ?_
  have e1 : Value.int (if 0 ≤ Int32.ofInt a then Int32.ofInt a else 0 - Int32.ofInt a) = cv ad (aI (if 0 ≤ a then a else wr (0 - a))) := by
    show Value.int (if Int32.ofInt 0 ≤ Int32.ofInt a then Int32.ofInt a else Int32.ofInt 0 - Int32.ofInt a) = Value.int (Int32.ofInt _)
    by_cases h : 0 ≤ a
    · rw [if_pos h, if_pos ((o32_le okI_0 ha).mpr h)]
    · rw [if_neg h, if_neg (fun q => h ((o32_le okI_0 ha).mp q)), o32_wr, Int32.ofInt_sub]
  rw [e1]
  exact K H locs ls hP hS hl
theorem so_cpI {x : Nat} {k : Nat × Nat} {z d a : Int} {t2 t : Nat} {i2 i : Int} {r : List AV} (C : Cx D ad cy A b n xs y p R s m args c cells slots) (ha : okZ a) (hd : okZ d) (hz : okZ z) (hr : okR t i) (hr2 : okR t2 i2) (hf : fetch y pc = some (.invokestatic x)) (hsite : site (mC y) x = some (3, k)) (hT : fT t = 0) (hT2 : fT t2 = 0) (h0 : 0 ≤ a ∧ 0 ≤ d ∧ 0 ≤ z ∧ a + z ≤ (fL t : Int) ∧ d + z ≤ (fL t2 : Int)) (h1 : 1 ≤ mF y) (h2 : cats r + 40 ≤ mW y) (h3 : L.length = mL y) (K : Nx D ad cy A p l e R s m args below meth c cells slots Q (pc + 3, L, r, kI σ t i a t2 i2 d z)) : Nx D ad cy A p l e R s m args below meth c cells slots Q (pc, L, aI z :: aI d :: aR t2 i2 :: aI a :: aR t i :: r, σ) := by
  obtain ⟨hx, hb, hml, hown, hts, hK, hN, hap, hR, hcl, hsb, hX, hbl, hbA, hn⟩ := id C
  intro H locs ls hP hS hl
  obtain ⟨p0, hs⟩ := site_ok hsite
  simp only [siteOk, decide_eq_true_eq] at hs
  have he : (WS ad cy σ)[ps t i]? = some (ad t i, .inl (cy 0, fL t, .inl (fun j => Int32.ofInt (gI σ t i (j : Int))))) := by rw [WS_at hr, cell_int hT]
  have he2 : (WS ad cy σ)[ps t2 i2]? = some (ad t2 i2, .inl (cy 0, fL t2, .inl (fun j => Int32.ofInt (gI σ t2 i2 (j : Int))))) := by rw [WS_at hr2, cell_int hT2]
  have nneg : ∀ {q : Int}, okZ q → 0 ≤ q → ¬ Int32.ofInt q < 0 := fun hq h0 h => by
    rw [show (0 : Int32) = Int32.ofInt 0 from rfl, o32_lt hq okI_0] at h
    omega
  refine va_copyi hx hb (hml.trans (h3.symm.trans hl.1.symm)) hown (hts _ (inTB (wP_mem hs) rfl)) (hts _ acp_ok.1) (hts _ acp_ok.2.1) (hts _ acp_ok.2.2) hK hP (WS_D hap) hS (ps t i) (ps t2 i2) 0 0 he he2 rfl rfl rfl (nneg ha h0.1) (nneg hd h0.2.1) (nneg hz h0.2.2.1) (by rw [o32_cl ha, o32_cl hz]; omega) (by rw [o32_cl hd, o32_cl hz]; omega) (fun _ _ => rfl) (Nat.le_trans h1 hR.1) (Nat.le_trans (Nat.add_le_add cats_le (Nat.le_of_ble_eq_true rfl)) (Nat.le_trans h2 hR.2)) (fetch_dec hf rfl (by decide)) (fun H1 locs1 hP1 hD1 hS1 => ?_)
  refine K H1 locs1 ls ?_ hS1 hl
  have e := WS_set (ad := ad) (cy := cy) (σ := σ) (σ' := kI σ t i a t2 i2 d z) hr2 (fun t' i' _ h => cellOf_eq (fun j' => by rw [gI_kI, if_neg (fun q => h ⟨q.1, q.2.1⟩)]) (fun _ => rfl) (fun _ _ => rfl))
  show va_P D vwCl (WS ad cy (kI σ t i a t2 i2 d z)) H1
  have e2 : (fun j : Nat => Int32.ofInt (gI (kI σ t i a t2 i2 d z) t2 i2 (j : Int))) = va_cpy (fun j : Nat => Int32.ofInt (gI σ t i (j : Int))) (fun j : Nat => Int32.ofInt (gI σ t2 i2 (j : Int))) a.toNat d.toNat z.toNat := by
    funext j
    unfold va_cpy
    rw [gI_kI]
    by_cases hj : d.toNat ≤ j ∧ j < d.toNat + z.toNat
    · rw [if_pos hj, if_pos ⟨rfl, rfl, by omega, by omega⟩]
      have : ((a.toNat + (j - d.toNat) : Nat) : Int) = (j : Int) - d + a := by omega
      rw [← this]
    · rw [if_neg hj, if_neg (fun q => hj (by have := q.2.2; omega))]
  rw [← e, cell_int hT2, e2, ← o32_cl ha, ← o32_cl hd, ← o32_cl hz]
  exact hP1
theorem so_cpL {x : Nat} {k : Nat × Nat} {z d a : Int} {t2 t : Nat} {i2 i : Int} {r : List AV} (C : Cx D ad cy A b n xs y p R s m args c cells slots) (ha : okZ a) (hd : okZ d) (hz : okZ z) (hr : okR t i) (hr2 : okR t2 i2) (hf : fetch y pc = some (.invokestatic x)) (hsite : site (mC y) x = some (3, k)) (hT : fT t = 1) (hT2 : fT t2 = 1) (h0 : 0 ≤ a ∧ 0 ≤ d ∧ 0 ≤ z ∧ a + z ≤ (fL t : Int) ∧ d + z ≤ (fL t2 : Int)) (h1 : 1 ≤ mF y) (h2 : cats r + 40 ≤ mW y) (h3 : L.length = mL y) (K : Nx D ad cy A p l e R s m args below meth c cells slots Q (pc + 3, L, r, kL σ t i a t2 i2 d z)) : Nx D ad cy A p l e R s m args below meth c cells slots Q (pc, L, aI z :: aI d :: aR t2 i2 :: aI a :: aR t i :: r, σ) := by
  obtain ⟨hx, hb, hml, hown, hts, hK, hN, hap, hR, hcl, hsb, hX, hbl, hbA, hn⟩ := id C
  intro H locs ls hP hS hl
  obtain ⟨p0, hs⟩ := site_ok hsite
  simp only [siteOk, decide_eq_true_eq] at hs
  have he : (WS ad cy σ)[ps t i]? = some (ad t i, .inl (cy 1, fL t, .inr (.inl (fun j => gL σ t i (j : Int))))) := by rw [WS_at hr, cell_long hT]
  have he2 : (WS ad cy σ)[ps t2 i2]? = some (ad t2 i2, .inl (cy 1, fL t2, .inr (.inl (fun j => gL σ t2 i2 (j : Int))))) := by rw [WS_at hr2, cell_long hT2]
  have nneg : ∀ {q : Int}, okZ q → 0 ≤ q → ¬ Int32.ofInt q < 0 := fun hq h0 h => by
    rw [show (0 : Int32) = Int32.ofInt 0 from rfl, o32_lt hq okI_0] at h
    omega
  refine va_copyl hx hb (hml.trans (h3.symm.trans hl.1.symm)) hown (hts _ (inTB (wP_mem hs) rfl)) (hts _ acp_ok.1) (hts _ acp_ok.2.1) (hts _ acp_ok.2.2) hK hP (WS_D hap) hS (ps t i) (ps t2 i2) 1 1 he he2 rfl rfl rfl (nneg ha h0.1) (nneg hd h0.2.1) (nneg hz h0.2.2.1) (by rw [o32_cl ha, o32_cl hz]; omega) (by rw [o32_cl hd, o32_cl hz]; omega) (fun _ _ => rfl) (Nat.le_trans h1 hR.1) (Nat.le_trans (Nat.add_le_add cats_le (Nat.le_of_ble_eq_true rfl)) (Nat.le_trans h2 hR.2)) (fetch_dec hf rfl (by decide)) (fun H1 locs1 hP1 hD1 hS1 => ?_)
  refine K H1 locs1 ls ?_ hS1 hl
  have e := WS_set (ad := ad) (cy := cy) (σ := σ) (σ' := kL σ t i a t2 i2 d z) hr2 (fun t' i' _ h => cellOf_eq (fun _ => rfl) (fun j' => by rw [gL_kL, if_neg (fun q => h ⟨q.1, q.2.1⟩)]) (fun _ _ => rfl))
  show va_P D vwCl (WS ad cy (kL σ t i a t2 i2 d z)) H1
  have e2 : (fun j : Nat => gL (kL σ t i a t2 i2 d z) t2 i2 (j : Int)) = va_cpy (fun j : Nat => gL σ t i (j : Int)) (fun j : Nat => gL σ t2 i2 (j : Int)) a.toNat d.toNat z.toNat := by
    funext j
    unfold va_cpy
    rw [gL_kL]
    by_cases hj : d.toNat ≤ j ∧ j < d.toNat + z.toNat
    · rw [if_pos hj, if_pos ⟨rfl, rfl, by omega, by omega⟩]
      have : ((a.toNat + (j - d.toNat) : Nat) : Int) = (j : Int) - d + a := by omega
      rw [← this]
    · rw [if_neg hj, if_neg (fun q => hj (by have := q.2.2; omega))]
  rw [← e, cell_long hT2, e2, ← o32_cl ha, ← o32_cl hd, ← o32_cl hz]
  exact hP1
/-- a call's step that goes on at once -/
theorem so_nat {x K0 : Nat} (C : Cx D ad cy A b n xs y p R s m args c cells slots) (hst : okA st) (hf0 : K0 = 1 → fetch y pc = some (.invokestatic x)) (hs : call y x pc K0 L st σ = some (.inl g)) (K : Nx D ad cy A p l e R s m args below meth c cells slots Q g) : Nx D ad cy A p l e R s m args below meth c cells slots Q (pc, L, st, σ) := by
  unfold call at hs
  split at hs
  · split at hs
    · split at hs
      · split at hs <;> cases hs
      · cases hs
    · cases hs
  · split at hs <;> cases hs
  · split at hs <;> cases hs
  · rename_i hsite
    split at hs
    · split at hs
      · rename_i hc
        obtain ⟨c0, c1, c2, c3, c4, c5, c6, c7, c8, c9, c10, c11⟩ := hc
        have hok2 := okR_of (okA_hd (okA_tl (okA_tl hst))) (by omega)
        have hok1 := okR_of (okA_hd (okA_tl (okA_tl (okA_tl (okA_tl hst))))) (by omega)
        split at hs
        · rename_i hT
          cases hs
          exact so_cpI C (okA_hd (okA_tl (okA_tl (okA_tl hst)))) (okA_hd (okA_tl hst)) (okA_hd hst) hok1 hok2 (hf0 c0) hsite hT (c1 ▸ hT) ⟨c4, c5, c6, c7, c8⟩ c9 c10 c11 K
        · rename_i hT
          cases hs
          exact so_cpL C (okA_hd (okA_tl (okA_tl (okA_tl hst)))) (okA_hd (okA_tl hst)) (okA_hd hst) hok1 hok2 (hf0 c0) hsite hT (c1 ▸ hT) ⟨c4, c5, c6, c7, c8⟩ c9 c10 c11 K
        · cases hs
      · cases hs
    · cases hs
  · rename_i hsite
    split at hs
    · split at hs
      · rename_i hc
        cases hs
        exact so_min C (okA_hd (okA_tl hst)) (okA_hd hst) (hf0 hc.1) hsite hc.2.1 hc.2.2.1 hc.2.2.2 K
      · cases hs
    · cases hs
  · rename_i hsite
    split at hs
    · split at hs
      · rename_i hc
        cases hs
        exact so_abs C (okA_hd hst) (hf0 hc.1) hsite hc.2.1 hc.2.2.1 hc.2.2.2 K
      · cases hs
    · cases hs
  · cases hs
theorem so_invokevirtual {x : Nat} (C : Cx D ad cy A b n xs y p R s m args c cells slots) (hL : okA L) (hst : okA st) (hM : okM σ) (hSc : Sc σ n xs) (hf : fetch y pc = some (.invokevirtual x)) (hs : stp y (.invokevirtual x) pc L st σ = some (.inl g)) (K : Nx D ad cy A p l e R s m args below meth c cells slots Q g) : Nx D ad cy A p l e R s m args below meth c cells slots Q (pc, L, st, σ) :=
  so_nat (x := x) (K0 := 0) C hst (fun h => by cases h) hs K
theorem so_invokestatic {x : Nat} (C : Cx D ad cy A b n xs y p R s m args c cells slots) (hL : okA L) (hst : okA st) (hM : okM σ) (hSc : Sc σ n xs) (hf : fetch y pc = some (.invokestatic x)) (hs : stp y (.invokestatic x) pc L st σ = some (.inl g)) (K : Nx D ad cy A p l e R s m args below meth c cells slots Q g) : Nx D ad cy A p l e R s m args below meth c cells slots Q (pc, L, st, σ) :=
  so_nat (x := x) (K0 := 1) C hst (fun _ => hf) hs K
theorem so_go {ins : Instr} (C : Cx D ad cy A b n xs y p R s m args c cells slots) (hL : okA L) (hst : okA st) (hM : okM σ) (hSc : Sc σ n xs) (hf : fetch y pc = some ins) (hs : stp y ins pc L st σ = some (.inl g)) (K : Nx D ad cy A p l e R s m args below meth c cells slots Q g) : Nx D ad cy A p l e R s m args below meth c cells slots Q (pc, L, st, σ) := by
  cases ins
  case aload_n => exact so_aload_n C hL hst hM hSc hf hs K
  case aload => exact so_aload C hL hst hM hSc hf hs K
  case iload_n => exact so_iload_n C hL hst hM hSc hf hs K
  case iload => exact so_iload C hL hst hM hSc hf hs K
  case lload_n => exact so_lload_n C hL hst hM hSc hf hs K
  case istore_n => exact so_istore_n C hL hst hM hSc hf hs K
  case istore => exact so_istore C hL hst hM hSc hf hs K
  case astore_n => exact so_astore_n C hL hst hM hSc hf hs K
  case astore => exact so_astore C hL hst hM hSc hf hs K
  case iinc => exact so_iinc C hL hst hM hSc hf hs K
  case aconst_null => exact so_aconst_null C hL hst hM hSc hf hs K
  case iconst => exact so_iconst C hL hst hM hSc hf hs K
  case bipush => exact so_bipush C hL hst hM hSc hf hs K
  case sipush => exact so_sipush C hL hst hM hSc hf hs K
  case lconst => exact so_lconst C hL hst hM hSc hf hs K
  case ldc => exact so_ldc C hL hst hM hSc hf hs K
  case ldc_w => exact so_ldc_w C hL hst hM hSc hf hs K
  case ldc2_w => exact so_ldc2_w C hL hst hM hSc hf hs K
  case dup => exact so_dup C hL hst hM hSc hf hs K
  case dup2 => exact so_dup2 C hL hst hM hSc hf hs K
  case pop => exact so_pop C hL hst hM hSc hf hs K
  case iadd => exact so_iadd C hL hst hM hSc hf hs K
  case isub => exact so_isub C hL hst hM hSc hf hs K
  case imul => exact so_imul C hL hst hM hSc hf hs K
  case iand => exact so_iand C hL hst hM hSc hf hs K
  case iushr => exact so_iushr C hL hst hM hSc hf hs K
  case idiv => exact so_idiv C hL hst hM hSc hf hs K
  case irem => exact so_irem C hL hst hM hSc hf hs K
  case ineg => exact so_ineg C hL hst hM hSc hf hs K
  case i2b => exact so_i2b C hL hst hM hSc hf hs K
  case i2s => exact so_i2s C hL hst hM hSc hf hs K
  case l2i => exact so_l2i C hL hst hM hSc hf hs K
  case i2l => exact so_i2l C hL hst hM hSc hf hs K
  case ladd => exact so_ladd C hL hst hM hSc hf hs K
  case land => exact so_land C hL hst hM hSc hf hs K
  case lor => exact so_lor C hL hst hM hSc hf hs K
  case lshl => exact so_lshl C hL hst hM hSc hf hs K
  case lcmp => exact so_lcmp C hL hst hM hSc hf hs K
  case getfield => exact so_getfield C hL hst hM hSc hf hs K
  case putfield => exact so_putfield C hL hst hM hSc hf hs K
  case arraylength => exact so_arraylength C hL hst hM hSc hf hs K
  case iaload => exact so_iaload C hL hst hM hSc hf hs K
  case baload => exact so_baload C hL hst hM hSc hf hs K
  case laload => exact so_laload C hL hst hM hSc hf hs K
  case aaload => exact so_aaload C hL hst hM hSc hf hs K
  case iastore => exact so_iastore C hL hst hM hSc hf hs K
  case bastore => exact so_bastore C hL hst hM hSc hf hs K
  case lastore => exact so_lastore C hL hst hM hSc hf hs K
  case aastore => exact so_aastore C hL hst hM hSc hf hs K
  case if_icmp => exact so_if_icmp C hL hst hM hSc hf hs K
  case ifCond => exact so_ifCond C hL hst hM hSc hf hs K
  case if_acmp => exact so_if_acmp C hL hst hM hSc hf hs K
  case ifnull => exact so_ifnull C hL hst hM hSc hf hs K
  case ifnonnull => exact so_ifnonnull C hL hst hM hSc hf hs K
  case goto => exact so_goto C hL hst hM hSc hf hs K
  case tableswitch => exact so_tableswitch C hL hst hM hSc hf hs K
  case invokevirtual => exact so_invokevirtual C hL hst hM hSc hf hs K
  case invokestatic => exact so_invokestatic C hL hst hM hSc hf hs K
  case ireturn =>
    simp only [stp] at hs
    split at hs
    · split at hs
      · cases hs
      · split at hs <;> cases hs
      · cases hs
    · cases hs
  case lreturn =>
    simp only [stp] at hs
    split at hs
    · split at hs <;> cases hs
    · cases hs
  case areturn =>
    simp only [stp] at hs
    split at hs
    · split at hs <;> cases hs
    · cases hs
  case return_ =>
    simp only [stp] at hs
    split at hs
    · split at hs <;> cases hs
    · cases hs
  all_goals (simp only [stp] at hs; cases hs)
/-- a step that calls -/
theorem so_cl {ins : Instr} {y' : Nat} {as : List AV} {v : Option AV} {σ' : aM} (C : Cx D ad cy A b n xs y p R s m args c cells slots) (hst : okA st) (hf : fetch y pc = some ins) (hs : stp y ins pc L st σ = some (.inr (.inr (y', as, g)))) (hM : MetOf l D ad cy A b n xs y' as σ v σ') (K : Nx D ad cy A p l e R s m args below meth c cells slots Q (g.1, g.2.1, v.toList ++ g.2.2.1, σ')) : Nx D ad cy A p l e R s m args below meth c cells slots Q (pc, L, st, σ) := by
  have key : ∀ x K0, (K0 = 0 → fetch y pc = some (.invokevirtual x)) → (K0 = 1 → fetch y pc = some (.invokestatic x)) → call y x pc K0 L st σ = some (.inr (.inr (y', as, g))) → Nx D ad cy A p l e R s m args below meth c cells slots Q (pc, L, st, σ) := by
    intro x K0 f0 f1 hs
    unfold call at hs
    split at hs
    · rename_i k y2 hsite
      split at hs
      · rename_i hK0
        split at hs
        · rename_i t i r hd
          split at hs
          · rename_i hc
            cases hs
            exact so_callV C hst (f0 hK0) hsite hd hc.1 hc.2.1 hc.2.2 hM K
          · cases hs
        · cases hs
      · cases hs
    · rename_i k y2 hsite
      split at hs
      · rename_i hc
        cases hs
        exact so_callS C (f1 hc.1) hsite hc.2.1 hc.2.2 hM K
      · cases hs
    · rename_i k y2 hsite
      split at hs
      · rename_i hc
        cases hs
        exact so_callN C (f1 hc.1) hsite hc.2.1 hc.2.2 hM K
      · cases hs
    · split at hs
      · split at hs
        · split at hs <;> cases hs
        · cases hs
      · cases hs
    · split at hs
      · split at hs <;> cases hs
      · cases hs
    · split at hs
      · split at hs <;> cases hs
      · cases hs
    · cases hs
  have nog : ∀ (q : aS), (∃ g, q = .inl g) ∨ (∃ r, q = .inr (.inl r)) → some q = some (.inr (.inr (y', as, g))) → False := by
    rintro q (⟨g, rfl⟩ | ⟨r, rfl⟩) h <;> cases h
  cases ins
  case invokevirtual x => exact key x 0 (fun _ => hf) (fun h => by cases h) hs
  case invokestatic x => exact key x 1 (fun h => by cases h) (fun _ => hf) hs
  all_goals
    exfalso
    simp only [stp] at hs
    repeat' (first | (cases hs; done) | (unfold stS at hs) | (unfold ldA at hs) | (unfold brn at hs) | (split at hs))
end SND2
