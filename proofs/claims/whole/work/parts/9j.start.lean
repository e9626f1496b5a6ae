/-! from the law's entry to its end -/
theorem inst_in : ∀ c, c < 10 → Cond.instantiable (cN c) (cS c) ∈ lw_tbl := lt10 (wP_mem (p := 1183) (by decide +kernel)) (wP_mem (p := 1031) (by decide +kernel)) (wP_mem (p := 1025) (by decide +kernel)) (wP_mem (p := 1067) (by decide +kernel)) (wP_mem (p := 1204) (by decide +kernel)) (wP_mem (p := 2019) (by decide +kernel)) (wP_mem (p := 1221) (by decide +kernel)) (wP_mem (p := 1039) (by decide +kernel)) (wP_mem (p := 1015) (by decide +kernel)) (wP_mem (p := 4082) (by decide +kernel))
theorem start_walk {p : Program} {e : Env} {s : State} {m : MethodId} {below : List Frame} {meth : Method} {c : Code} {Q : State → Prop} (l : Launch) {b n : Nat} {xs : Nat → Int32} (hL : n ≤ 3072) (hx : p.tables.exec = Jvm.exec) (hb : c.code = mCd 213) (hml : c.maxLocals = 4) (hown : s.vm.findClass (cN 12) = some m.cls) (hts : ∀ w ∈ lw_tbl, w.before #[Value.ref b] s = true) (hX0 : va_X b n xs s s.heap) (hbl : b < s.heap.size)
    (hend : ∀ (pc : Nat) (H : Heap) (ls : Array Slot), decode (mCd 213) pc = .ok (.ireturn, 1) → W p l e room_1 s m #[Value.ref b] below meth c H [] 600000 7302250 Q (F0 m pc ls [.int 1])) : W p l e room_1 s m #[Value.ref b] below meth c s.heap [] 0 0 Q (entryFrame m ([Value.ref b] : List Value).toArray 4) := by
  have kn : ∀ k, ∃ q : ClassId × (Nat → Nat), k < 10 → u_Kn s (cN k) (cT k) (cS k) q.1 q.2 := fun k => by
    by_cases hk : k < 10
    · obtain ⟨cC, iS, h⟩ := u_known (n := cS k) hts (cW_in k hk) (hts _ (inst_in k hk))
      exact ⟨(cC, iS), fun _ => h⟩
    · exact ⟨(m.cls, fun _ => 0), fun h => absurd h hk⟩
  obtain ⟨dq, hdq⟩ : ∃ dq : Nat → ClassId × (Nat → Nat), ∀ k, k < 10 → u_Kn s (cN k) (cT k) (cS k) (dq k).1 (dq k).2 := ⟨fun k => Classical.choose (kn k), fun k => Classical.choose_spec (kn k)⟩
  obtain ⟨cA0, kA0, co0, a1, a2, a3⟩ := Cond.arrayClass_spec (hts _ (wP_mem bAC_ok.1))
  obtain ⟨cA1, kA1, co1, b1, b2, b3⟩ := Cond.arrayClass_spec (hts _ (wP_mem bAC_ok.2.1))
  obtain ⟨cA2, kA2, co2, c1, c2, c3⟩ := Cond.arrayClass_spec (hts _ (wP_mem bAC_ok.2.2.1))
  obtain ⟨co3, cA3, kA3, d1, _, d3, d4, d5⟩ := Cond.arrayOver_spec (hts _ (wP_mem bAC_ok.2.2.2.1))
  obtain ⟨co4, cA4, kA4, e1, _, e3, e4, e5⟩ := Cond.arrayOver_spec (hts _ (wP_mem bAC_ok.2.2.2.2))
  obtain ⟨cy, y0, y1, y2, y3, y4⟩ : ∃ cy : Nat → ClassId, cy 0 = cA0 ∧ cy 1 = cA1 ∧ cy 2 = cA2 ∧ cy 3 = cA3 ∧ cy 4 = cA4 := ⟨fun k => if k = 0 then cA0 else if k = 1 then cA1 else if k = 2 then cA2 else if k = 3 then cA3 else cA4, rfl, rfl, rfl, rfl, rfl⟩
  obtain ⟨D, hDD⟩ : ∃ D : va_G, D = (fun k => (dq k).1, fun k => (dq k).2) := ⟨_, rfl⟩
  have hK : va_K D vwCl (tysOf cy) s := by
    refine ⟨fun k q hk => ?_, fun k q hk => ?_⟩
    · have h10 : k < 10 := (List.getElem?_eq_some_iff.mp hk).1
      rw [vw_at k h10] at hk
      cases hk
      rw [hDD]
      exact hdq k h10
    · match k, hk with
      | 0, hk => cases hk; rw [y0]; exact ⟨fun N z => ⟨(fun k h => by cases h), kA0, a2, co0, a3⟩, a1⟩
      | 1, hk => cases hk; rw [y1]; exact ⟨fun N z => ⟨(fun k h => by cases h), kA1, b2, co1, b3⟩, b1⟩
      | 2, hk => cases hk; rw [y2]; exact ⟨fun N z => ⟨(fun k h => by cases h), kA2, c2, co2, c3⟩, c1⟩
      | 3, hk => cases hk; rw [y3]; exact ⟨fun N z => ⟨(fun k h => by cases h), kA3, d3, co3, d4⟩, kA3, co3, d3, d4, d1, d5⟩
      | 4, hk => cases hk; rw [y4]; exact ⟨fun N z => ⟨(fun k h => by cases h), kA4, e3, co4, e4⟩, kA4, co4, e3, e4, e1, e5⟩
      | k + 5, hk => cases hk
  have hTB : ∀ w ∈ TB, w.before #[Value.ref b] s = true := fun w hw => hts w (List.mem_filter.mp hw).1
  have hBN : BNW s := fun o x y' p1 p2 hs => by
    have hw := bsi_ok hs
    simp only [bwk, Bool.and_eq_true, decide_eq_true_eq] at hw
    exact va_Nw.of rfl (hts _ (wP_mem hw.1.2))
  have hNW : NW s := fun o x k y' hs => by
    obtain ⟨p0, h⟩ := site_ok hs
    simp only [siteOk, Bool.and_eq_true, decide_eq_true_eq] at h
    exact va_Nw.of rfl (hts _ (wP_mem h.1.2))
  have hm4 : mL 213 = 4 := by decide +kernel
  have hBX : BX D cy s.heap.size 213 p room_1 s m #[Value.ref b] meth c := ⟨hx, hb, hml.trans hm4.symm, hown, hTB, hK, ⟨va_AO.of (hts _ (wP_mem bAC_ok.2.2.2.1)), va_AO.of (hts _ (wP_mem bAC_ok.2.2.2.2)), hBN⟩, ⟨Nat.le_of_ble_eq_true rfl, Nat.le_of_ble_eq_true rfl⟩, Or.inl rfl, Nat.le_refl _⟩
  obtain ⟨w, hrun, hlen, hsl, hw⟩ := made
  have hl := lv_entry ([.ref b]) (n := 4) (Nat.le_of_ble_eq_true rfl)
  rw [lg_entry_eq]
  generalize (lg_sl ([.ref b]) ++ List.replicate (4 - (lg_sl ([.ref b])).length) Slot.unset).toArray = ls at hl ⊢
  have hl : lv_has ls 4 [(0, .ref b)] := hl
  have hLR : LR (bad (fun k => k)) [aU, aU, aU, aU] ls := ⟨hl.1, hl.2.1, fun k v hk hc => by
    match k, hk with
    | 0, hk => cases hk; exact absurd rfl hc
    | 1, hk => cases hk; exact absurd rfl hc
    | 2, hk => cases hk; exact absurd rfl hc
    | 3, hk => cases hk; exact absurd rfl hc
    | k + 4, hk => cases hk⟩
  have hXl : Xl (some (.ref b)) ls := ⟨hl.2.2 (0, .ref b) List.mem_cons_self, rfl⟩
  have hc6 : room_1.cells = 600000 := rfl
  have hs7 : room_1.slots = 7302250 := rfl
  refine bsnd l D cy s.heap.size 1000 213 0 [aU, aU, aU, aU] [] ([], 0) _ hrun rfl p e room_1 s m #[Value.ref b] below meth c 0 0 (fun k => k) (some (.ref b)) Q hBX ⟨Nat.le_refl _, Nat.le_refl _⟩ ⟨by rw [hc6]; show w.1.length - 0 ≤ _; omega, by rw [hs7]; show w.2 - 0 ≤ _; omega⟩ (fun _ => ?_) (fun k => k) (fun _ _ => rfl) s.heap [] ls (fun k q h => by cases h) ⟨fun i j p q h => (by cases h), fun k q h => (by cases h)⟩ va_S.rf hLR hXl
  intro f _ H locs ls hP hD hS hl hX
  have g34 : gI (sg0 n xs) 34 0 (-1) = (n : Int) := rfl
  obtain ⟨μ', hev⟩ := law_loop 512 (sg0 n xs) 0 0 (Inv0 n xs) (okM0 n xs (by omega)) (by omega) (by omega) (by omega) (by rw [g34]; omega) (by rw [g34]; omega)
  have hap := apart_made (b := b) hw hD
  have hbA : ¬ bA s.heap.size b := Nat.not_le.mpr hbl
  have C : Cx D (adr f b) cy (bA s.heap.size) b n xs 213 p room_1 s m #[Value.ref b] c (w.1.length - 0) (w.2 - 0) := ⟨hx, hb, hml.trans hm4.symm, hown, hTB, hK, hNW, hap, ⟨Nat.le_of_ble_eq_true (by decide +kernel), Nat.le_of_ble_eq_true (by decide +kernel)⟩, ⟨by rw [hc6]; omega, by rw [hs7]; omega⟩, rfl, hX0, hbl, hbA, by omega⟩
  have hLok : okA [aR 34 0, aR 0 0, aR 25 0, aI 0] := okA_cons (fun t i h => by cases h; exact Or.inr ⟨rfl, rfl⟩) (okA_cons okv_0 (okA_cons okv_25 (okA_cons (okv_I (by unfold okZ; omega)) okA_nil)))
  refine sound_ev hap rfl hbA (by omega) hev hLok okA_nil (okM0 n xs (by omega)) (Sc0 n xs) C (fun pc' L' st' i hf hs => ?_) H locs ls (WS_made hw hP) hS ⟨hl.1, hl.2.1, fun k v hk hc => ?_⟩
  · intro H locs ls hP hS hl
    cases i
    case ireturn =>
      simp only [stp] at hs
      split at hs
      · split at hs
        · cases hs
          exact va_forget hS.2.2 (W.widen (by omega) (by omega) (hend pc' H ls (fetch_dec hf rfl (by decide))))
        · split at hs
          · cases hs
            exact va_forget hS.2.2 (W.widen (by omega) (by omega) (hend pc' H ls (fetch_dec hf rfl (by decide))))
          · cases hs
        · cases hs
      · cases hs
    case invokevirtual x =>
      exfalso
      simp only [stp] at hs
      unfold call at hs
      repeat' (first | (cases hs; done) | (split at hs))
    case invokestatic x =>
      exfalso
      simp only [stp] at hs
      unfold call at hs
      repeat' (first | (cases hs; done) | (split at hs))
    all_goals
      exfalso
      simp only [stp] at hs
      repeat' (first | (cases hs; done) | (unfold stS at hs) | (unfold ldA at hs) | (unfold brn at hs) | (split at hs))
  · match k, hk with
    | 0, hk => cases hk; exact hX.1
    | 1, hk => cases hk; exact hl.2.2 1 (aR 0 0) rfl (fun z => by cases z)
    | 2, hk => cases hk; exact hl.2.2 2 (aR 165 0) rfl (fun z => by cases z)
    | 3, hk => cases hk; exact hl.2.2 3 (aI 0) rfl (fun z => by cases z)
    | k + 4, hk => cases hk
