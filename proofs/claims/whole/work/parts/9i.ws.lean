/-! what is made is the heap's picture of the start memory -/
def sg0 (n : Nat) (xs : Nat → Int32) : aM := (fun t i j => if t = 34 then (if j = -1 then (n : Int) else if 0 ≤ j ∧ j < n then (xs j.toNat).toInt else 0) else cI0 t i j, (fun _ _ _ => 0, fun _ => none))
def adr (f : Nat → Nat) (b : Nat) : Nat → Int → Nat := fun t i => if t = 34 then b else f (bP t i.toNat)
theorem g0 (n : Nat) (xs : Nat → Int32) {t : Nat} (h : ¬ t = 34) (i j : Int) : gI (sg0 n xs) t i j = cI0 t i j := if_neg h
theorem arr_ext {cA : ClassId} {N : Nat} {f g : Nat → Value} (h : ∀ j, j < N → f j = g j) : arrV cA N f = arrV cA N g := by
  unfold arrV
  rw [show (fun j : Fin N => f j.val) = (fun j : Fin N => g j.val) from funext fun j => h j.val j.isLt]
theorem all2 {P : Nat → Nat → Bool} (h : ((List.range 34).all fun t => (List.range (fN t)).all fun i => P t i) = true) {t i : Nat} (ht : t < 34) (hi : i < fN t) : P t i = true :=
  List.all_eq_true.mp (List.all_eq_true.mp h t (List.mem_range.mpr ht)) i (List.mem_range.mpr hi)
theorem all3 {c : Prop} [Decidable c] {N : Nat} {P : Nat → Bool} (h : (decide (¬ c) || (List.range N).all P) = true) (hc : c) {j : Nat} (hj : j < N) : P j = true := by
  rw [Bool.or_eq_true] at h
  rcases h with h | h
  · exact absurd hc (of_decide_eq_true h)
  · exact List.all_eq_true.mp h j (List.mem_range.mpr hj)
theorem cref_34 {t : Nat} (ht : t < 34) {k : Nat} (hk : k < 24) (i : Int) : ∃ q : Nat × Int, cref t i k = some q ∧ ¬ q.1 = 34 := by
  have h := of_decide_eq_true (List.all_eq_true.mp (List.all_eq_true.mp bcr_34 t (List.mem_range.mpr ht)) k (List.mem_range.mpr hk))
  unfold cref
  generalize (crT.getD t []).getD k (0, 0, 0) = q at h
  obtain ⟨t', c, z⟩ := q
  cases z with
  | zero => exact ⟨_, rfl, h⟩
  | succ z => exact ⟨_, rfl, h⟩
section WSM
variable {D : va_G} {f : Nat → Nat} {cy : Nat → ClassId} {b n base : Nat} {xs : Nat → Int32} {w : List bE} {H : Heap}
theorem at_made {t i : Nat} (ht : t < 34) (hi : i < fN t) (h1 : va_at D vwCl (f (bP t i), bM f cy (bX t i)) H) : va_at D vwCl (adr f b t (i : Int), cellOf (adr f b) cy (sg0 n xs) t (i : Int)) H := by
  have h34 : ¬ t = 34 := by omega
  have ea : adr f b t (i : Int) = f (bP t i) := by
    unfold adr
    rw [if_neg h34]
    rfl
  rw [ea]
  have hk := of_decide_eq_true (List.all_eq_true.mp b0_kin t (List.mem_range.mpr ht))
  rcases hk with ⟨h99, h6⟩ | ⟨h10, h8⟩
  · have eX : bX t i = .inl (bkd (fT t), fL t, bups t i) := if_pos h99
    rw [eX] at h1
    have h1 : va_at D vwCl (f (bP t i), bMa f cy (bkd (fT t)) (fL t) (bups t i)) H := h1
    rcases (show fT t = 0 ∨ fT t = 1 ∨ fT t = 2 ∨ fT t = 3 ∨ fT t = 4 ∨ fT t = 5 by omega) with hT | hT | hT | hT | hT | hT
    · rw [hT] at h1
      have h1 : H[f (bP t i)]? = some (arrV (cy 0) (fL t) (fun j => .int (bVI (blk (bups t i) j)))) := h1
      rw [cell_int hT]
      show H[f (bP t i)]? = some (arrV (cy 0) (fL t) (fun j => .int (Int32.ofInt (gI (sg0 n xs) t (i : Int) (j : Int)))))
      rw [h1, arr_ext (fun j hj => ?_)]
      rw [g0 n xs h34, of_decide_eq_true (all3 (all2 b0_int ht hi) ⟨h99, hT⟩ hj)]
    · rw [hT] at h1
      have h1 : H[f (bP t i)]? = some (arrV (cy 1) (fL t) (fun _ => .long 0)) := h1
      rw [cell_long hT]
      exact h1
    · rw [hT] at h1
      have h1 : H[f (bP t i)]? = some (arrV (cy 2) (fL t) (fun _ => .int 0)) := h1
      rw [cell_bool hT]
      show H[f (bP t i)]? = some (arrV (cy 2) (fL t) (fun j => .int (Int32.ofInt (gI (sg0 n xs) t (i : Int) (j : Int)))))
      rw [h1, arr_ext (fun j hj => ?_)]
      rw [g0 n xs h34, ← of_decide_eq_true (all3 (all2 b0_bool ht hi) ⟨h99, hT⟩ hj)]
    · rw [hT] at h1
      have h1 : H[f (bP t i)]? = some (arrV (cy 3) (fL t) (fun j => va_rf (bVQ f (blk (bups t i) j)))) := h1
      unfold cellOf
      rw [hT]
      show H[f (bP t i)]? = some (arrV (cy 3) (fL t) (fun j => va_rf ((aref (sg0 n xs) t (i : Int) (j : Int)).map (fun q => adr f b q.1 q.2))))
      rw [h1, arr_ext (fun j hj => ?_)]
      rw [of_decide_eq_true (all3 (all2 b0_shl ht hi) ⟨h99, hT⟩ hj)]
      unfold aref
      rw [hT]
      rfl
    · rw [hT] at h1
      have h1 : H[f (bP t i)]? = some (arrV (cy 4) (fL t) (fun j => va_rf (bVQ f (blk (bups t i) j)))) := h1
      unfold cellOf
      rw [hT]
      show H[f (bP t i)]? = some (arrV (cy 4) (fL t) (fun j => va_rf ((aref (sg0 n xs) t (i : Int) (j : Int)).map (fun q => adr f b q.1 q.2))))
      rw [h1, arr_ext (fun j hj => ?_)]
      rw [of_decide_eq_true (all3 (all2 b0_ord ht hi) ⟨h99, hT⟩ hj)]
      unfold aref
      rw [hT]
      show va_rf (some (f (bP 8 (60 * i + j)))) = va_rf (some (adr f b 8 (60 * (i : Int) + (j : Int))))
      unfold adr
      rw [if_neg (by decide), show (60 * (i : Int) + (j : Int)).toNat = 60 * i + j by omega]
    · rw [hT] at h1
      have h1 : H[f (bP t i)]? = some (arrV (cy 4) (fL t) (fun j => va_rf (bVQ f (blk (bups t i) j)))) := h1
      unfold cellOf
      rw [hT]
      show H[f (bP t i)]? = some (arrV (cy 4) (fL t) (fun j => va_rf ((aref (sg0 n xs) t (i : Int) (j : Int)).map (fun q => adr f b q.1 q.2))))
      rw [h1, of_decide_eq_true (all2 b0_lin ht hi) ⟨h99, hT⟩, arr_ext (fun j hj => ?_)]
      unfold aref
      rw [hT]
      rfl
  · have eX : bX t i = .inr (fC t, (List.range (cS (fC t))).map (fun k => bsl t i k)) := if_neg (by omega)
    rw [eX] at h1
    have h1 : va_at D vwCl (f (bP t i), .inr (fC t, ((List.range (cS (fC t))).map (fun k => bsl t i k)).map (cv (bad f)))) H := h1
    have e : ((List.range (cS (fC t))).map (fun k => bsl t i k)).map (cv (bad f)) = (List.range (cS (fC t))).map (fun k => cv (adr f b) (slv (sg0 n xs) t (i : Int) k)) := by
      rw [List.map_map]
      refine List.map_congr_left (fun k hk => ?_)
      have hk := List.mem_range.mp hk
      have h24 := of_decide_eq_true (List.all_eq_true.mp b0_sl (fC t) (List.mem_range.mpr h10))
      show cv (bad f) (bsl t i k) = cv (adr f b) (slv (sg0 n xs) t (i : Int) k)
      obtain ⟨q, hq, hq34⟩ := cref_34 ht (show k < 24 by omega) (i : Int)
      unfold bsl slv
      rw [hq, g0 n xs h34]
      generalize sK (fC t) k = z
      rcases z with _ | _ | _ | z
      · rfl
      · rfl
      · show va_rf (some (f (bP q.1 q.2.toNat))) = va_rf (some (adr f b q.1 q.2))
        unfold adr
        rw [if_neg hq34]
      · rfl
    rw [cell_obj h10, ← e]
    exact h1
theorem WS_made (hw : ∀ q ∈ allTI, w[bP q.1 q.2]? = some (bX q.1 q.2)) (hP : va_P D vwCl (bWS f cy w) H) : va_P D vwCl (WS (adr f b) cy (sg0 n xs)) H := by
  intro k q hq
  unfold WS at hq
  rw [List.getElem?_map] at hq
  cases ha : allTI[k]? with
  | none => rw [ha] at hq; cases hq
  | some a =>
    rw [ha] at hq
    cases hq
    obtain ⟨_, p2, p3⟩ := pos_inv ha
    exact at_made p2 p3 (hP _ _ (bWS_at (hw a (List.mem_of_getElem? ha))))
theorem apart_made (hw : ∀ q ∈ allTI, w[bP q.1 q.2]? = some (bX q.1 q.2)) (hD : va_D (bA base) (bWS f cy w)) : Apart (bA base) (adr f b) := by
  have hm : ∀ {t : Nat} {i : Int}, okR t i → (t, i.toNat) ∈ allTI := fun h => List.mem_of_getElem? (pos_at h.1 (by have := h.2; omega))
  have he : ∀ {t : Nat} {i : Int}, okR t i → (bWS f cy w)[bP t i.toNat]? = some (adr f b t i, bM f cy (bX t i.toNat)) := fun {t i} h => by
    have e : adr f b t i = f (bP t i.toNat) := by unfold adr; rw [if_neg (by have := h.1; omega)]
    rw [e]
    exact bWS_at (hw _ (hm h))
  refine ⟨fun t i t' i' h h' e => ?_, fun t i h => hD.2 _ _ (he h)⟩
  have ep : bP t i.toNat = bP t' i'.toNat := hD.1 _ _ _ _ (he h) (he h') e
  have := of_decide_eq_true (List.all_eq_true.mp (List.all_eq_true.mp bP_inj _ (hm h)) _ (hm h')) ep
  have e1 : t = t' := congrArg Prod.fst this
  have e2 : i.toNat = i'.toNat := congrArg Prod.snd this
  have := h.2
  have := h'.2
  exact ⟨e1, by omega⟩
end WSM
/-! the start memory keeps the relation -/
theorem cI0_ok (t : Nat) (i j : Int) : okZ (cI0 t i j) := by
  unfold cI0 okZ
  repeat' split
  all_goals omega
theorem okM0 (n : Nat) (xs : Nat → Int32) (hn : n < 2147483648) : okM (sg0 n xs) := by
  refine ⟨fun t i j => ?_, fun j q h => by cases h⟩
  show okZ (if t = 34 then (if j = -1 then (n : Int) else if 0 ≤ j ∧ j < n then (xs j.toNat).toInt else 0) else cI0 t i j)
  split
  · split
    · exact ⟨by omega, by omega⟩
    · split
      · exact ok_i32 _
      · exact ⟨by omega, by omega⟩
  · exact cI0_ok t i j
theorem Sc0 (n : Nat) (xs : Nat → Int32) : Sc (sg0 n xs) n xs := ⟨rfl, fun j hj => by
  show (if (j : Int) = -1 then (n : Int) else if 0 ≤ (j : Int) ∧ (j : Int) < n then (xs (j : Int).toNat).toInt else 0) = (xs j).toInt
  rw [if_neg (by omega), if_pos (by omega)]
  rfl⟩
theorem Inv0 (n : Nat) (xs : Nat → Int32) : Inv (sg0 n xs) 0 := by
  have g : ∀ (t : Nat) (i j : Int), ¬ t = 34 → gI (sg0 n xs) t i j = cI0 t i j := fun t i j h => g0 n xs h i j
  have z26 : ∀ k, ¬ k = 604 → gI (sg0 n xs) 26 0 k = 0 := fun k hk => by rw [g _ _ _ (by decide)]; unfold cI0; simp [hk]
  have n8 : ∀ i : Int, 0 ≤ i → i < 60 → gI (sg0 n xs) 8 i 0 = i := fun i h0 h1 => by rw [g _ _ _ (by decide)]; unfold cI0; simp [h0, h1]
  have z6 : ∀ j, ¬ j = 5 → gI (sg0 n xs) 6 0 j = 0 := fun j hj => by rw [g _ _ _ (by decide)]; unfold cI0; simp [hj]
  have c0 := z6 2 (by omega)
  have zz : ∀ (t : Nat) (i j : Int), (t = 9 ∨ t = 10 ∨ t = 11 ∨ t = 12 ∨ t = 4 ∨ t = 28) → gI (sg0 n xs) t i j = 0 := fun t i j h => by
    rw [g _ _ _ (by omega)]
    unfold cI0
    rcases h with rfl | rfl | rfl | rfl | rfl | rfl <;> simp
  have s1 : gI (sg0 n xs) 26 0 604 = 1 := by rw [g _ _ _ (by decide)]; unfold cI0; simp
  have s2 : gI (sg0 n xs) 6 0 5 = 1 := by rw [g _ _ _ (by decide)]; unfold cI0; simp
  have p1 : gI (sg0 n xs) 8 120 0 = -1 := by rw [g _ _ _ (by decide)]; unfold cI0; simp
  have ow : ∀ i, gI (sg0 n xs) 8 i 2 = 0 := fun i => by rw [g _ _ _ (by decide)]; unfold cI0; simp
  have sh : ∀ i, gI (sg0 n xs) 2 i 2 = -1 ∧ gI (sg0 n xs) 2 i 3 = -1 ∧ gI (sg0 n xs) 2 i 1 = 0 := fun i => by rw [g _ _ _ (by decide), g _ _ _ (by decide), g _ _ _ (by decide)]; unfold cI0; simp
  have so : ∀ i, 0 ≤ i → i < 8 → gI (sg0 n xs) 29 0 i = -1 := fun i h0 h1 => by rw [g _ _ _ (by decide)]; unfold cI0; simp [h0, h1]
  have f1 : gI (sg0 n xs) 0 0 9 = -1 ∧ gI (sg0 n xs) 0 0 8 = 0 := by rw [g _ _ _ (by decide), g _ _ _ (by decide)]; unfold cI0; simp
  have f2 : gI (sg0 n xs) 25 0 18 = -1 ∧ gI (sg0 n xs) 25 0 3 = 0 := by rw [g _ _ _ (by decide), g _ _ _ (by decide)]; unfold cI0; simp
  have a3 := z6 3 (by omega)
  have a4 := z6 4 (by omega)
  have a6 := z6 6 (by omega)
  have b3 := zz 9 0 3 (by omega)
  have b4 := zz 9 0 4 (by omega)
  generalize sg0 n xs = S at *
  refine ⟨⟨⟨⟨?_, ?_, ?_⟩, fun o o0 o1 => ?_⟩, fun o o0 o1 => ?_, fun i j i0 i1 => ?_, ⟨⟨?_, ?_, ?_, ?_, ?_, ?_⟩, fun w _ _ => ⟨?_, ?_⟩, fun k _ _ => ?_⟩, ⟨?_, ?_, ?_, ?_, ?_, n8, ?_⟩⟩, ⟨?_, fun i _ _ => ?_, ?_, ?_⟩, fun s s0 s8 => Or.inl ⟨?_, ?_, ?_, ?_⟩, fun r _ _ => ?_, ?_, ?_, fun z => ?_⟩
  · rw [z26 _ (by omega), c0]
  · omega
  · omega
  · omega
  · omega
  · omega
  · rw [z26 _ (by omega), a3]
  · rw [z26 _ (by omega), a4]
  · rw [z26 _ (by omega), b4]
  · rw [s1, s2]
  · rw [z26 _ (by omega), a6]
  · rw [z26 _ (by omega), b3]
  · rw [z26 _ (by omega), zz 11 _ _ (by omega)]
  · rw [z26 _ (by omega), zz 12 _ _ (by omega)]
  · rw [z26 _ (by omega), zz 10 _ _ (by omega)]
  · omega
  · omega
  · omega
  · omega
  · omega
  · exact p1
  · omega
  · rw [ow]; omega
  · omega
  · omega
  · exact (sh s).1
  · exact (sh s).2.1
  · exact (sh s).2.2
  · exact so s s0 s8
  · rw [zz 4 _ _ (by omega), zz 28 _ _ (by omega)]
  · rw [f1.1, f2.1]
  · rw [f1.2, f2.2]
  · exact absurd f1.2 z
