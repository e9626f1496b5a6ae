/-! a step keeps its state's values what they may be -/
def okZ (a : Int) : Prop := -2147483648 ≤ a ∧ a < 2147483648
def okQ (q : Option (Nat × Int)) : Prop := ∀ t i, q = some (t, i) → okR t i ∨ (t = 34 ∧ i = 0)
def okv (v : AV) : Prop := match v with
  | .inl a => okZ a
  | .inr (.inl _) => True
  | .inr (.inr (.inl q)) => okQ q
  | .inr (.inr (.inr _)) => True
def okA (L : List AV) : Prop := ∀ v ∈ L, okv v
def okM (σ : aM) : Prop := (∀ t i j, okZ (gI σ t i j)) ∧ ∀ j q, gR σ j = some q → q.1 = 8 ∧ okR 8 q.2
def okS (σ : aM) (q : aS) : Prop := match q with
  | .inl (_, L, st, σ') => okA L ∧ okA st ∧ okM σ' ∧ ∀ j, gI σ' 34 0 j = gI σ 34 0 j
  | .inr (.inl (v, σ')) => (∀ w, v = some w → okv w) ∧ okM σ' ∧ ∀ j, gI σ' 34 0 j = gI σ 34 0 j
  | .inr (.inr (y', as, (_, L, r, σ'))) => y' < 213 ∧ okA as ∧ okA L ∧ okA r ∧ σ' = σ
theorem ok_i32 (x : Int32) : okZ x.toInt := ⟨Int32.le_toInt x, Int32.toInt_lt x⟩
theorem ok_wr (a : Int) : okZ (wr a) := ok_i32 _
theorem okA_nil : okA [] := fun v h => by cases h
theorem okA_cons {v : AV} {L : List AV} (h1 : okv v) (h2 : okA L) : okA (v :: L) := List.forall_mem_cons.mpr ⟨h1, h2⟩
theorem okA_hd {v : AV} {L : List AV} (h : okA (v :: L)) : okv v := h v List.mem_cons_self
theorem okA_tl {v : AV} {L : List AV} (h : okA (v :: L)) : okA L := fun w hw => h w (List.mem_cons_of_mem _ hw)
theorem okA_at {L : List AV} (h : okA L) {k : Nat} {v : AV} (hk : L[k]? = some v) : okv v := h v (List.mem_of_getElem? hk)
theorem okA_set {L : List AV} (h : okA L) (k : Nat) {v : AV} (hv : okv v) : okA (L.set k v) := fun w hw => (List.mem_or_eq_of_mem_set hw).elim (h w) (fun e => e ▸ hv)
theorem okA_drop {L : List AV} (h : okA L) (n : Nat) : okA (L.drop n) := fun w hw => h w (List.mem_of_mem_drop hw)
theorem okA_rt {L : List AV} (h : okA L) (n : Nat) : okA (L.take n).reverse := fun w hw => h w (List.mem_of_mem_take (List.mem_reverse.mp hw))
theorem okI_inr {n : Int} (h : inr32 n = true) : okZ n := by
  unfold inr32 at h
  rw [Bool.and_eq_true] at h
  exact ⟨of_decide_eq_true h.1, of_decide_eq_true h.2⟩
theorem okM_uI {σ : aM} (h : okM σ) (t : Nat) (i j : Int) {v : Int} (hv : okZ v) : okM (uI σ t i j v) := by
  refine ⟨fun t' i' j' => ?_, h.2⟩
  rw [gI_uI]
  split
  · exact hv
  · exact h.1 _ _ _
theorem okM_uL {σ : aM} (h : okM σ) (t : Nat) (i j : Int) (v : Int64) : okM (uL σ t i j v) := h
theorem okM_uR {σ : aM} (h : okM σ) (j : Int) {i : Int} (hv : okR 8 i) : okM (uR σ j (some (8, i))) := by
  refine ⟨h.1, fun j' q hq => ?_⟩
  rw [gR_uR] at hq
  split at hq
  · cases hq
    exact ⟨rfl, hv⟩
  · exact h.2 _ _ hq
theorem okM_kI {σ : aM} (h : okM σ) (t : Nat) (i a : Int) (t2 : Nat) (i2 b n : Int) : okM (kI σ t i a t2 i2 b n) := by
  refine ⟨fun t' i' j' => ?_, h.2⟩
  rw [gI_kI]
  split
  · exact h.1 _ _ _
  · exact h.1 _ _ _
theorem okM_kL {σ : aM} (h : okM σ) (t : Nat) (i a : Int) (t2 : Nat) (i2 b n : Int) : okM (kL σ t i a t2 i2 b n) := h
/-- a cell of class c under 10 is one of the heap's -/
theorem okR_of {t : Nat} {i : Int} (h : okv (aR t i)) (h2 : t ≠ 34) : okR t i := by
  rcases h t i rfl with h | h
  · exact h
  · exact absurd h.1 h2
theorem ok_aR {t : Nat} {i : Int} (h : okR t i) : okv (aR t i) := by
  intro t' i' e
  cases e
  exact Or.inl h
theorem ok_cref {t : Nat} {i : Int} (h : okR t i) (k : Nat) (hk : k < cS (fC t)) (hc : sK (fC t) k = 2) : okQ (cref t i k) := by
  obtain ⟨h1, h2, h3⟩ := h
  have key : (List.range 34).all (fun t => (List.range (cS (fC t))).all (fun k => if sK (fC t) k = 2 then (match (crT.getD t []).getD k (0, 0, 0) with | (t', c, 0) => decide (t' < 34 ∧ c < fN t') | (t', _, _ + 1) => decide (t' < 34 ∧ fN t ≤ fN t')) else true)) = true := by decide +kernel
  have key := List.all_eq_true.mp (List.all_eq_true.mp key t (List.mem_range.mpr h1)) k (List.mem_range.mpr hk)
  rw [if_pos hc] at key
  unfold cref
  intro t2 i2 e
  left
  split at e
  · rename_i t' c hq
    rw [hq] at key
    have key := of_decide_eq_true key
    cases e
    exact ⟨key.1, by omega, by omega⟩
  · rename_i t' c n hq
    rw [hq] at key
    have key := of_decide_eq_true key
    cases e
    exact ⟨key.1, h2, by omega⟩
theorem ok_aref {σ : aM} (hM : okM σ) {t : Nat} {i j : Int} (h : okR t i) (hT : 3 ≤ fT t ∧ fT t ≤ 5) (h0 : 0 ≤ j) (h1 : j < (fL t : Int)) : okQ (aref σ t i j) := by
  obtain ⟨a1, a2, a3⟩ := h
  have key : (List.range 34).all (fun t => decide ((fT t = 3 → fL t = 8) ∧ (fT t = 4 → fL t = 60 ∧ fN t = 2))) = true := by decide +kernel
  have key := of_decide_eq_true (List.all_eq_true.mp key t (List.mem_range.mpr a1))
  intro t2 i2 e
  left
  unfold aref at e
  rcases (show fT t = 3 ∨ fT t = 4 ∨ fT t = 5 by omega) with q | q | q
  · rw [q] at e
    cases e
    have := key.1 q
    exact ⟨by omega, h0, by rw [show fN 2 = 8 from rfl]; omega⟩
  · rw [q] at e
    cases e
    have := key.2 q
    exact ⟨by omega, by omega, by rw [show fN 8 = 121 from rfl]; omega⟩
  · rw [q] at e
    obtain ⟨e1, e2⟩ := hM.2 _ _ e
    cases e1
    exact e2
section OKS
variable {y pc : Nat} {L st : List AV} {σ : aM} {q : aS}
theorem ok_aload_n {k : Fin 4} (hL : okA L) (hst : okA st) (hM : okM σ) (h : stp y (.aload_n k) pc L st σ = some q) : okS σ q := by
  simp only [stp] at h
  split at h
  · rename_i v hv
    cases h
    exact ⟨hL, okA_cons (okA_at hL hv) hst, hM, fun _ => rfl⟩
  · cases h
theorem ok_aload {k : Nat} (hL : okA L) (hst : okA st) (hM : okM σ) (h : stp y (.aload k) pc L st σ = some q) : okS σ q := by
  simp only [stp] at h
  split at h
  · rename_i v hv
    cases h
    exact ⟨hL, okA_cons (okA_at hL hv) hst, hM, fun _ => rfl⟩
  · cases h
theorem ok_iload_n {k : Fin 4} (hL : okA L) (hst : okA st) (hM : okM σ) (h : stp y (.iload_n k) pc L st σ = some q) : okS σ q := by
  simp only [stp] at h
  split at h
  · rename_i v hv
    cases h
    exact ⟨hL, okA_cons (okA_at hL hv) hst, hM, fun _ => rfl⟩
  · cases h
theorem ok_iload {k : Nat} (hL : okA L) (hst : okA st) (hM : okM σ) (h : stp y (.iload k) pc L st σ = some q) : okS σ q := by
  simp only [stp] at h
  split at h
  · rename_i v hv
    cases h
    exact ⟨hL, okA_cons (okA_at hL hv) hst, hM, fun _ => rfl⟩
  · cases h
theorem ok_lload_n {k : Fin 4} (hL : okA L) (hst : okA st) (hM : okM σ) (h : stp y (.lload_n k) pc L st σ = some q) : okS σ q := by
  simp only [stp] at h
  split at h
  · rename_i v hv
    cases h
    exact ⟨hL, okA_cons (okA_at hL hv) hst, hM, fun _ => rfl⟩
  · cases h
theorem ok_istore_n {k : Fin 4} (hL : okA L) (hst : okA st) (hM : okM σ) (h : stp y (.istore_n k) pc L st σ = some q) : okS σ q := by
  simp only [stp] at h
  split at h
  · unfold stS at h
    split at h
    · cases h
      exact ⟨okA_set hL _ (okA_hd hst), okA_tl hst, hM, fun _ => rfl⟩
    · cases h
  · cases h
theorem ok_istore {k : Nat} (hL : okA L) (hst : okA st) (hM : okM σ) (h : stp y (.istore k) pc L st σ = some q) : okS σ q := by
  simp only [stp] at h
  split at h
  · unfold stS at h
    split at h
    · cases h
      exact ⟨okA_set hL _ (okA_hd hst), okA_tl hst, hM, fun _ => rfl⟩
    · cases h
  · cases h
theorem ok_astore_n {k : Fin 4} (hL : okA L) (hst : okA st) (hM : okM σ) (h : stp y (.astore_n k) pc L st σ = some q) : okS σ q := by
  simp only [stp] at h
  split at h
  · unfold stS at h
    split at h
    · cases h
      exact ⟨okA_set hL _ (okA_hd hst), okA_tl hst, hM, fun _ => rfl⟩
    · cases h
  · cases h
theorem ok_astore {k : Nat} (hL : okA L) (hst : okA st) (hM : okM σ) (h : stp y (.astore k) pc L st σ = some q) : okS σ q := by
  simp only [stp] at h
  split at h
  · unfold stS at h
    split at h
    · cases h
      exact ⟨okA_set hL _ (okA_hd hst), okA_tl hst, hM, fun _ => rfl⟩
    · cases h
  · cases h
theorem ok_iinc {k : Nat} {n : Int} (hL : okA L) (hst : okA st) (hM : okM σ) (h : stp y (.iinc k n) pc L st σ = some q) : okS σ q := by
  simp only [stp] at h
  split at h
  · unfold stS at h
    split at h
    · cases h
      exact ⟨okA_set hL _ (ok_wr _), hst, hM, fun _ => rfl⟩
    · cases h
  · cases h
theorem ok_aconst_null (hL : okA L) (hst : okA st) (hM : okM σ) (h : stp y (.aconst_null) pc L st σ = some q) : okS σ q := by
  simp only [stp] at h
  cases h
  exact ⟨hL, okA_cons (fun t i e => by cases e) hst, hM, fun _ => rfl⟩
theorem ok_iconst {n : Int} (hL : okA L) (hst : okA st) (hM : okM σ) (h : stp y (.iconst n) pc L st σ = some q) : okS σ q := by
  simp only [stp] at h
  split at h
  · rename_i hn
    cases h
    exact ⟨hL, okA_cons (okI_inr hn) hst, hM, fun _ => rfl⟩
  · cases h
theorem ok_bipush {n : Int} (hL : okA L) (hst : okA st) (hM : okM σ) (h : stp y (.bipush n) pc L st σ = some q) : okS σ q := by
  simp only [stp] at h
  split at h
  · rename_i hn
    cases h
    exact ⟨hL, okA_cons (show okZ n from ⟨by omega, by omega⟩) hst, hM, fun _ => rfl⟩
  · cases h
theorem ok_sipush {n : Int} (hL : okA L) (hst : okA st) (hM : okM σ) (h : stp y (.sipush n) pc L st σ = some q) : okS σ q := by
  simp only [stp] at h
  split at h
  · rename_i hn
    cases h
    exact ⟨hL, okA_cons (show okZ n from ⟨by omega, by omega⟩) hst, hM, fun _ => rfl⟩
  · cases h
theorem ok_lconst {n : Fin 2} (hL : okA L) (hst : okA st) (hM : okM σ) (h : stp y (.lconst n) pc L st σ = some q) : okS σ q := by
  simp only [stp] at h
  cases h
  exact ⟨hL, okA_cons trivial hst, hM, fun _ => rfl⟩
theorem ok_ldc {x : Nat} (hL : okA L) (hst : okA st) (hM : okM σ) (h : stp y (.ldc x) pc L st σ = some q) : okS σ q := by
  simp only [stp] at h
  split at h
  · split at h
    · rename_i hn
      cases h
      exact ⟨hL, okA_cons (okI_inr hn) hst, hM, fun _ => rfl⟩
    · cases h
  · cases h
theorem ok_ldc_w {x : Nat} (hL : okA L) (hst : okA st) (hM : okM σ) (h : stp y (.ldc_w x) pc L st σ = some q) : okS σ q := by
  simp only [stp] at h
  split at h
  · split at h
    · rename_i hn
      cases h
      exact ⟨hL, okA_cons (okI_inr hn) hst, hM, fun _ => rfl⟩
    · cases h
  · cases h
theorem ok_ldc2_w {x : Nat} (hL : okA L) (hst : okA st) (hM : okM σ) (h : stp y (.ldc2_w x) pc L st σ = some q) : okS σ q := by
  simp only [stp] at h
  split at h
  · cases h
    exact ⟨hL, okA_cons trivial hst, hM, fun _ => rfl⟩
  · cases h
theorem ok_dup (hL : okA L) (hst : okA st) (hM : okM σ) (h : stp y (.dup) pc L st σ = some q) : okS σ q := by
  simp only [stp] at h
  split at h
  · split at h
    · cases h
      exact ⟨hL, okA_cons (okA_hd hst) hst, hM, fun _ => rfl⟩
    · cases h
  · cases h
theorem ok_dup2 (hL : okA L) (hst : okA st) (hM : okM σ) (h : stp y (.dup2) pc L st σ = some q) : okS σ q := by
  simp only [stp] at h
  split at h
  · split at h
    · cases h
      exact ⟨hL, okA_cons (okA_hd hst) (okA_cons (okA_hd (okA_tl hst)) hst), hM, fun _ => rfl⟩
    · cases h
  · cases h
theorem ok_pop (hL : okA L) (hst : okA st) (hM : okM σ) (h : stp y (.pop) pc L st σ = some q) : okS σ q := by
  simp only [stp] at h
  split at h
  · split at h
    · cases h
      exact ⟨hL, okA_tl hst, hM, fun _ => rfl⟩
    · cases h
  · cases h
theorem ok_iadd (hL : okA L) (hst : okA st) (hM : okM σ) (h : stp y (.iadd) pc L st σ = some q) : okS σ q := by
  simp only [stp] at h
  split at h
  · cases h
    exact ⟨hL, okA_cons (ok_i32 _) (okA_tl (okA_tl hst)), hM, fun _ => rfl⟩
  · cases h
theorem ok_isub (hL : okA L) (hst : okA st) (hM : okM σ) (h : stp y (.isub) pc L st σ = some q) : okS σ q := by
  simp only [stp] at h
  split at h
  · cases h
    exact ⟨hL, okA_cons (ok_i32 _) (okA_tl (okA_tl hst)), hM, fun _ => rfl⟩
  · cases h
theorem ok_imul (hL : okA L) (hst : okA st) (hM : okM σ) (h : stp y (.imul) pc L st σ = some q) : okS σ q := by
  simp only [stp] at h
  split at h
  · cases h
    exact ⟨hL, okA_cons (ok_i32 _) (okA_tl (okA_tl hst)), hM, fun _ => rfl⟩
  · cases h
theorem ok_iand (hL : okA L) (hst : okA st) (hM : okM σ) (h : stp y (.iand) pc L st σ = some q) : okS σ q := by
  simp only [stp] at h
  split at h
  · cases h
    exact ⟨hL, okA_cons (ok_i32 _) (okA_tl (okA_tl hst)), hM, fun _ => rfl⟩
  · cases h
theorem ok_iushr (hL : okA L) (hst : okA st) (hM : okM σ) (h : stp y (.iushr) pc L st σ = some q) : okS σ q := by
  simp only [stp] at h
  split at h
  · cases h
    exact ⟨hL, okA_cons (ok_i32 _) (okA_tl (okA_tl hst)), hM, fun _ => rfl⟩
  · cases h
theorem ok_idiv (hL : okA L) (hst : okA st) (hM : okM σ) (h : stp y (.idiv) pc L st σ = some q) : okS σ q := by
  simp only [stp] at h
  split at h
  · split at h
    · cases h
      exact ⟨hL, okA_cons (ok_i32 _) (okA_tl (okA_tl hst)), hM, fun _ => rfl⟩
    · cases h
  · cases h
theorem ok_irem (hL : okA L) (hst : okA st) (hM : okM σ) (h : stp y (.irem) pc L st σ = some q) : okS σ q := by
  simp only [stp] at h
  split at h
  · split at h
    · cases h
      exact ⟨hL, okA_cons (ok_i32 _) (okA_tl (okA_tl hst)), hM, fun _ => rfl⟩
    · cases h
  · cases h
theorem ok_ineg (hL : okA L) (hst : okA st) (hM : okM σ) (h : stp y (.ineg) pc L st σ = some q) : okS σ q := by
  simp only [stp] at h
  split at h
  · cases h
    exact ⟨hL, okA_cons (ok_i32 _) (okA_tl hst), hM, fun _ => rfl⟩
  · cases h
theorem ok_i2b (hL : okA L) (hst : okA st) (hM : okM σ) (h : stp y (.i2b) pc L st σ = some q) : okS σ q := by
  simp only [stp] at h
  split at h
  · cases h
    exact ⟨hL, okA_cons (ok_i32 _) (okA_tl hst), hM, fun _ => rfl⟩
  · cases h
theorem ok_i2s (hL : okA L) (hst : okA st) (hM : okM σ) (h : stp y (.i2s) pc L st σ = some q) : okS σ q := by
  simp only [stp] at h
  split at h
  · cases h
    exact ⟨hL, okA_cons (ok_i32 _) (okA_tl hst), hM, fun _ => rfl⟩
  · cases h
theorem ok_l2i (hL : okA L) (hst : okA st) (hM : okM σ) (h : stp y (.l2i) pc L st σ = some q) : okS σ q := by
  simp only [stp] at h
  split at h
  · cases h
    exact ⟨hL, okA_cons (ok_i32 _) (okA_tl hst), hM, fun _ => rfl⟩
  · cases h
theorem ok_i2l (hL : okA L) (hst : okA st) (hM : okM σ) (h : stp y (.i2l) pc L st σ = some q) : okS σ q := by
  simp only [stp] at h
  split at h
  · cases h
    exact ⟨hL, okA_cons trivial (okA_tl hst), hM, fun _ => rfl⟩
  · cases h
theorem ok_ladd (hL : okA L) (hst : okA st) (hM : okM σ) (h : stp y (.ladd) pc L st σ = some q) : okS σ q := by
  simp only [stp] at h
  split at h
  · cases h
    exact ⟨hL, okA_cons trivial (okA_tl (okA_tl hst)), hM, fun _ => rfl⟩
  · cases h
theorem ok_land (hL : okA L) (hst : okA st) (hM : okM σ) (h : stp y (.land) pc L st σ = some q) : okS σ q := by
  simp only [stp] at h
  split at h
  · cases h
    exact ⟨hL, okA_cons trivial (okA_tl (okA_tl hst)), hM, fun _ => rfl⟩
  · cases h
theorem ok_lor (hL : okA L) (hst : okA st) (hM : okM σ) (h : stp y (.lor) pc L st σ = some q) : okS σ q := by
  simp only [stp] at h
  split at h
  · cases h
    exact ⟨hL, okA_cons trivial (okA_tl (okA_tl hst)), hM, fun _ => rfl⟩
  · cases h
theorem ok_lshl (hL : okA L) (hst : okA st) (hM : okM σ) (h : stp y (.lshl) pc L st σ = some q) : okS σ q := by
  simp only [stp] at h
  split at h
  · cases h
    exact ⟨hL, okA_cons trivial (okA_tl (okA_tl hst)), hM, fun _ => rfl⟩
  · cases h
theorem ok_lcmp (hL : okA L) (hst : okA st) (hM : okM σ) (h : stp y (.lcmp) pc L st σ = some q) : okS σ q := by
  simp only [stp] at h
  split at h
  · cases h
    exact ⟨hL, okA_cons (ok_i32 _) (okA_tl (okA_tl hst)), hM, fun _ => rfl⟩
  · cases h
theorem fC34 : ¬ fC 34 < 10 := by decide
theorem ne34 {t c k o x : Nat} (h : fC t = c) (hf : fld o x = some (c, k)) : t ≠ 34 := by
  rintro rfl
  have := (fld_ok hf).1
  rw [← h] at this
  exact fC34 this
theorem ok_getfield {x : Nat} (hL : okA L) (hst : okA st) (hM : okM σ) (h : stp y (.getfield x) pc L st σ = some q) : okS σ q := by
  simp only [stp] at h
  split at h
  · split at h
    · rename_i hf
      split at h
      · rename_i hc
        have hr := okR_of (okA_hd hst) (ne34 hc hf)
        have hk := (fld_ok hf).2.1
        subst hc
        split at h
        · cases h
          exact ⟨hL, okA_cons (hM.1 _ _ _) (okA_tl hst), hM, fun _ => rfl⟩
        · cases h
          exact ⟨hL, okA_cons (hM.1 _ _ _) (okA_tl hst), hM, fun _ => rfl⟩
        · rename_i h2
          cases h
          exact ⟨hL, okA_cons (ok_cref hr _ hk h2) (okA_tl hst), hM, fun _ => rfl⟩
        · cases h
          exact ⟨hL, okA_cons (hM.1 _ _ _) (okA_tl hst), hM, fun _ => rfl⟩
        · cases h
      · cases h
    · cases h
  · cases h
theorem sc_uI {σ : aM} {t : Nat} {i j v : Int} (h : t ≠ 34) (j' : Int) : gI (uI σ t i j v) 34 0 j' = gI σ 34 0 j' := by
  rw [gI_uI, if_neg (fun q => h q.1.symm)]
theorem sc_kI {σ : aM} {t : Nat} {i a : Int} {t2 : Nat} {i2 b n : Int} (h : t2 < 34) (j' : Int) : gI (kI σ t i a t2 i2 b n) 34 0 j' = gI σ 34 0 j' := by
  rw [gI_kI, if_neg (fun q => by omega)]
theorem ok_putfield {x : Nat} (hL : okA L) (hst : okA st) (hM : okM σ) (h : stp y (.putfield x) pc L st σ = some q) : okS σ q := by
  simp only [stp] at h
  split at h
  · split at h
    · rename_i v t i r c k hf
      split at h
      · rename_i hc
        split at h
        · cases h
          exact ⟨hL, okA_tl (okA_tl hst), okM_uI hM _ _ _ (okA_hd hst), sc_uI (ne34 hc hf)⟩
        · split at h
          · cases h
            exact ⟨hL, okA_tl (okA_tl hst), okM_uI hM _ _ _ (okA_hd hst), sc_uI (ne34 hc hf)⟩
          · cases h
        · cases h
      · cases h
    · cases h
  · cases h
theorem ok_arraylength (hL : okA L) (hst : okA st) (hM : okM σ) (h : stp y (.arraylength) pc L st σ = some q) : okS σ q := by
  simp only [stp] at h
  split at h
  · split at h
    · rename_i hc
      cases h
      exact ⟨hL, okA_cons (okI_inr hc.2) (okA_tl hst), hM, fun _ => rfl⟩
    · cases h
  · cases h
theorem ok_iaload (hL : okA L) (hst : okA st) (hM : okM σ) (h : stp y (.iaload) pc L st σ = some q) : okS σ q := by
  simp only [stp] at h
  split at h
  · unfold ldA at h
    split at h
    · cases h
      exact ⟨hL, okA_cons (hM.1 _ _ _) (okA_tl (okA_tl hst)), hM, fun _ => rfl⟩
    · cases h
  · cases h
theorem ok_baload (hL : okA L) (hst : okA st) (hM : okM σ) (h : stp y (.baload) pc L st σ = some q) : okS σ q := by
  simp only [stp] at h
  split at h
  · unfold ldA at h
    split at h
    · cases h
      exact ⟨hL, okA_cons (hM.1 _ _ _) (okA_tl (okA_tl hst)), hM, fun _ => rfl⟩
    · cases h
  · cases h
theorem ok_laload (hL : okA L) (hst : okA st) (hM : okM σ) (h : stp y (.laload) pc L st σ = some q) : okS σ q := by
  simp only [stp] at h
  split at h
  · unfold ldA at h
    split at h
    · cases h
      exact ⟨hL, okA_cons trivial (okA_tl (okA_tl hst)), hM, fun _ => rfl⟩
    · cases h
  · cases h
theorem ok_aaload (hL : okA L) (hst : okA st) (hM : okM σ) (h : stp y (.aaload) pc L st σ = some q) : okS σ q := by
  simp only [stp] at h
  split at h
  · split at h
    · rename_i a t i r hc
      cases h
      have ht : t ≠ 34 := by
        rintro rfl
        exact absurd hc.1 (by decide)
      have hl : aLen σ t = (fL t : Int) := aLen_n ht rfl
      have h3 := hc.2.2.2
      rw [hl] at h3
      exact ⟨hL, okA_cons (ok_aref hM (okR_of (okA_hd (okA_tl hst)) ht) ⟨hc.1, hc.2.1⟩ hc.2.2.1 h3) (okA_tl (okA_tl hst)), hM, fun _ => rfl⟩
    · cases h
  · cases h
theorem ok_iastore (hL : okA L) (hst : okA st) (hM : okM σ) (h : stp y (.iastore) pc L st σ = some q) : okS σ q := by
  simp only [stp] at h
  split at h
  · split at h
    · rename_i hc
      cases h
      exact ⟨hL, okA_tl (okA_tl (okA_tl hst)), okM_uI hM _ _ _ (okA_hd hst), sc_uI hc.2.1⟩
    · cases h
  · cases h
theorem ok_bastore (hL : okA L) (hst : okA st) (hM : okM σ) (h : stp y (.bastore) pc L st σ = some q) : okS σ q := by
  simp only [stp] at h
  split at h
  · split at h
    · rename_i v a t i r hc
      cases h
      have ht : t ≠ 34 := by
        rintro rfl
        exact absurd hc.1 (by decide)
      exact ⟨hL, okA_tl (okA_tl (okA_tl hst)), okM_uI hM _ _ _ (okA_hd hst), sc_uI ht⟩
    · cases h
  · cases h
theorem ok_lastore (hL : okA L) (hst : okA st) (hM : okM σ) (h : stp y (.lastore) pc L st σ = some q) : okS σ q := by
  simp only [stp] at h
  split at h
  · split at h
    · cases h
      exact ⟨hL, okA_tl (okA_tl (okA_tl hst)), hM, fun _ => rfl⟩
    · cases h
  · cases h
theorem ok_aastore (hL : okA L) (hst : okA st) (hM : okM σ) (h : stp y (.aastore) pc L st σ = some q) : okS σ q := by
  simp only [stp] at h
  split at h
  · split at h
    · rename_i t2 i2 a t i r hc
      cases h
      obtain ⟨rfl, rfl, -⟩ := hc
      exact ⟨hL, okA_tl (okA_tl (okA_tl hst)), okM_uR hM _ (okR_of (okA_hd hst) (by decide)), fun _ => rfl⟩
    · cases h
  · cases h
theorem ok_brn {off : Int} {b : Bool} {r : List AV} (hL : okA L) (hr : okA r) (hM : okM σ) (h : brn pc off b L r σ = some q) : okS σ q := by
  unfold brn at h
  split at h
  · split at h
    · cases h
      exact ⟨hL, hr, hM, fun _ => rfl⟩
    · cases h
      exact ⟨hL, hr, hM, fun _ => rfl⟩
  · cases h
theorem ok_if_icmp {k : ClassFile.Cond} {off : Int} (hL : okA L) (hst : okA st) (hM : okM σ) (h : stp y (.if_icmp k off) pc L st σ = some q) : okS σ q := by
  simp only [stp] at h
  split at h
  · exact ok_brn hL (okA_tl (okA_tl hst)) hM h
  · cases h
theorem ok_ifCond {k : ClassFile.Cond} {off : Int} (hL : okA L) (hst : okA st) (hM : okM σ) (h : stp y (.ifCond k off) pc L st σ = some q) : okS σ q := by
  simp only [stp] at h
  split at h
  · exact ok_brn hL (okA_tl hst) hM h
  · cases h
theorem ok_if_acmp {k : ClassFile.ACond} {off : Int} (hL : okA L) (hst : okA st) (hM : okM σ) (h : stp y (.if_acmp k off) pc L st σ = some q) : okS σ q := by
  simp only [stp] at h
  split at h
  · split at h
    · exact ok_brn hL (okA_tl (okA_tl hst)) hM h
    · cases h
  · cases h
theorem ok_ifnull {off : Int} (hL : okA L) (hst : okA st) (hM : okM σ) (h : stp y (.ifnull off) pc L st σ = some q) : okS σ q := by
  simp only [stp] at h
  split at h
  · exact ok_brn hL (okA_tl hst) hM h
  · cases h
theorem ok_ifnonnull {off : Int} (hL : okA L) (hst : okA st) (hM : okM σ) (h : stp y (.ifnonnull off) pc L st σ = some q) : okS σ q := by
  simp only [stp] at h
  split at h
  · exact ok_brn hL (okA_tl hst) hM h
  · cases h
theorem ok_goto {off : Int} (hL : okA L) (hst : okA st) (hM : okM σ) (h : stp y (.goto off) pc L st σ = some q) : okS σ q := by
  simp only [stp] at h
  split at h
  · cases h
    exact ⟨hL, hst, hM, fun _ => rfl⟩
  · cases h
theorem ok_tableswitch {d lo hi : Int} {offs : Array Int} (hL : okA L) (hst : okA st) (hM : okM σ) (h : stp y (.tableswitch d lo hi offs) pc L st σ = some q) : okS σ q := by
  simp only [stp] at h
  split at h
  · split at h
    · split at h
      · cases h
        exact ⟨hL, okA_tl hst, hM, fun _ => rfl⟩
      · cases h
    · split at h
      · split at h
        · cases h
          exact ⟨hL, okA_tl hst, hM, fun _ => rfl⟩
        · cases h
      · cases h
  · cases h
theorem site_lt {o x k n y' : Nat} (hk : k < 3) (h : site o x = some (k, n, y')) : y' < 213 := by
  obtain ⟨p, hs⟩ := site_ok h
  rcases (show k = 0 ∨ k = 1 ∨ k = 2 by omega) with rfl | rfl | rfl <;> simp only [siteOk, Bool.and_eq_true] at hs
  · exact of_decide_eq_true hs.1.1.1.1.1
  · exact of_decide_eq_true hs.1.1.1
  · exact of_decide_eq_true hs.1.1.1
theorem ok_call {x K : Nat} (hL : okA L) (hst : okA st) (hM : okM σ) (h : call y x pc K L st σ = some q) : okS σ q := by
  unfold call at h
  split at h
  · rename_i n y' hs
    split at h
    · split at h
      · rename_i t i r hd
        split at h
        · cases h
          have h1 := okA_drop hst n
          rw [hd] at h1
          exact ⟨site_lt (by decide) hs, okA_cons (okA_hd h1) (okA_rt hst n), hL, okA_tl h1, rfl⟩
        · cases h
      · cases h
    · cases h
  · rename_i n y' hs
    split at h
    · cases h
      exact ⟨site_lt (by decide) hs, okA_rt hst n, hL, okA_drop hst n, rfl⟩
    · cases h
  · rename_i n y' hs
    split at h
    · cases h
      exact ⟨site_lt (by decide) hs, okA_rt hst n, hL, okA_drop hst n, rfl⟩
    · cases h
  · split at h
    · split at h
      · rename_i hc
        split at h
        · cases h
          exact ⟨hL, okA_tl (okA_tl (okA_tl (okA_tl (okA_tl hst)))), okM_kI hM _ _ _ _ _ _ _, sc_kI hc.2.2.2.1⟩
        · cases h
          exact ⟨hL, okA_tl (okA_tl (okA_tl (okA_tl (okA_tl hst)))), hM, fun _ => rfl⟩
        · cases h
      · cases h
    · cases h
  · split at h
    · split at h
      · cases h
        refine ⟨hL, okA_cons ?_ (okA_tl (okA_tl hst)), hM, fun _ => rfl⟩
        split
        · exact okA_hd hst
        · exact okA_hd (okA_tl hst)
      · cases h
    · cases h
  · split at h
    · split at h
      · cases h
        refine ⟨hL, okA_cons ?_ (okA_tl hst), hM, fun _ => rfl⟩
        split
        · exact okA_hd hst
        · exact ok_wr _
      · cases h
    · cases h
  · cases h
theorem ok_invokevirtual {x : Nat} (hL : okA L) (hst : okA st) (hM : okM σ) (h : stp y (.invokevirtual x) pc L st σ = some q) : okS σ q := by
  simp only [stp] at h
  exact ok_call hL hst hM h
theorem ok_invokestatic {x : Nat} (hL : okA L) (hst : okA st) (hM : okM σ) (h : stp y (.invokestatic x) pc L st σ = some q) : okS σ q := by
  simp only [stp] at h
  exact ok_call hL hst hM h
theorem ok_ireturn (hL : okA L) (hst : okA st) (hM : okM σ) (h : stp y (.ireturn) pc L st σ = some q) : okS σ q := by
  simp only [stp] at h
  split at h
  · split at h
    · cases h
      exact ⟨fun w e => by cases e; exact okA_hd hst, hM, fun _ => rfl⟩
    · split at h
      · cases h
        exact ⟨fun w e => by cases e; exact okA_hd hst, hM, fun _ => rfl⟩
      · cases h
    · cases h
  · cases h
theorem ok_lreturn (hL : okA L) (hst : okA st) (hM : okM σ) (h : stp y (.lreturn) pc L st σ = some q) : okS σ q := by
  simp only [stp] at h
  split at h
  · split at h
    · cases h
      exact ⟨fun w e => by cases e; exact okA_hd hst, hM, fun _ => rfl⟩
    · cases h
  · cases h
theorem ok_areturn (hL : okA L) (hst : okA st) (hM : okM σ) (h : stp y (.areturn) pc L st σ = some q) : okS σ q := by
  simp only [stp] at h
  split at h
  · split at h
    · cases h
      exact ⟨fun w e => by cases e; exact okA_hd hst, hM, fun _ => rfl⟩
    · cases h
  · cases h
theorem ok_return_ (hL : okA L) (hst : okA st) (hM : okM σ) (h : stp y (.return_) pc L st σ = some q) : okS σ q := by
  simp only [stp] at h
  split at h
  · split at h
    · cases h
      exact ⟨fun w e => (by cases e), hM, fun _ => rfl⟩
    · cases h
  · cases h
theorem stp_ok {ins : Instr} (hL : okA L) (hst : okA st) (hM : okM σ) (h : stp y ins pc L st σ = some q) : okS σ q := by
  cases ins
  case aload_n => exact ok_aload_n hL hst hM h
  case aload => exact ok_aload hL hst hM h
  case iload_n => exact ok_iload_n hL hst hM h
  case iload => exact ok_iload hL hst hM h
  case lload_n => exact ok_lload_n hL hst hM h
  case istore_n => exact ok_istore_n hL hst hM h
  case istore => exact ok_istore hL hst hM h
  case astore_n => exact ok_astore_n hL hst hM h
  case astore => exact ok_astore hL hst hM h
  case iinc => exact ok_iinc hL hst hM h
  case aconst_null => exact ok_aconst_null hL hst hM h
  case iconst => exact ok_iconst hL hst hM h
  case bipush => exact ok_bipush hL hst hM h
  case sipush => exact ok_sipush hL hst hM h
  case lconst => exact ok_lconst hL hst hM h
  case ldc => exact ok_ldc hL hst hM h
  case ldc_w => exact ok_ldc_w hL hst hM h
  case ldc2_w => exact ok_ldc2_w hL hst hM h
  case dup => exact ok_dup hL hst hM h
  case dup2 => exact ok_dup2 hL hst hM h
  case pop => exact ok_pop hL hst hM h
  case iadd => exact ok_iadd hL hst hM h
  case isub => exact ok_isub hL hst hM h
  case imul => exact ok_imul hL hst hM h
  case iand => exact ok_iand hL hst hM h
  case iushr => exact ok_iushr hL hst hM h
  case idiv => exact ok_idiv hL hst hM h
  case irem => exact ok_irem hL hst hM h
  case ineg => exact ok_ineg hL hst hM h
  case i2b => exact ok_i2b hL hst hM h
  case i2s => exact ok_i2s hL hst hM h
  case l2i => exact ok_l2i hL hst hM h
  case i2l => exact ok_i2l hL hst hM h
  case ladd => exact ok_ladd hL hst hM h
  case land => exact ok_land hL hst hM h
  case lor => exact ok_lor hL hst hM h
  case lshl => exact ok_lshl hL hst hM h
  case lcmp => exact ok_lcmp hL hst hM h
  case getfield => exact ok_getfield hL hst hM h
  case putfield => exact ok_putfield hL hst hM h
  case arraylength => exact ok_arraylength hL hst hM h
  case iaload => exact ok_iaload hL hst hM h
  case baload => exact ok_baload hL hst hM h
  case laload => exact ok_laload hL hst hM h
  case aaload => exact ok_aaload hL hst hM h
  case iastore => exact ok_iastore hL hst hM h
  case bastore => exact ok_bastore hL hst hM h
  case lastore => exact ok_lastore hL hst hM h
  case aastore => exact ok_aastore hL hst hM h
  case if_icmp => exact ok_if_icmp hL hst hM h
  case ifCond => exact ok_ifCond hL hst hM h
  case if_acmp => exact ok_if_acmp hL hst hM h
  case ifnull => exact ok_ifnull hL hst hM h
  case ifnonnull => exact ok_ifnonnull hL hst hM h
  case goto => exact ok_goto hL hst hM h
  case tableswitch => exact ok_tableswitch hL hst hM h
  case invokevirtual => exact ok_invokevirtual hL hst hM h
  case invokestatic => exact ok_invokestatic hL hst hM h
  case ireturn => exact ok_ireturn hL hst hM h
  case lreturn => exact ok_lreturn hL hst hM h
  case areturn => exact ok_areturn hL hst hM h
  case return_ => exact ok_return_ hL hst hM h
  all_goals (simp only [stp] at h; cases h)
end OKS
theorem lay_ok {as : List AV} (h : okA as) : okA (lay as) := by
  intro v hv
  unfold lay at hv
  obtain ⟨w, hw, hv⟩ := List.mem_flatMap.mp hv
  split at hv
  · rcases List.mem_cons.mp hv with rfl | hv
    · exact h _ hw
    · rw [List.mem_singleton.mp hv]; trivial
  · rw [List.mem_singleton.mp hv]; exact h _ hw
theorem lay0_ok {y : Nat} {as : List AV} (h : okA as) : okA (lay0 y as) := by
  intro v hv
  unfold lay0 at hv
  rcases List.mem_append.mp hv with hv | hv
  · exact lay_ok h v hv
  · rw [List.eq_of_mem_replicate hv]; trivial
/-- a run keeps all that -/
theorem run_ok : ∀ (n y pc : Nat) (L st : List AV) (σ : aM) (v : Option AV) (σ' : aM), runF n y (pc, L, st, σ) = some (v, σ') → okA L → okA st → okM σ → (∀ w, v = some w → okv w) ∧ okM σ' ∧ ∀ j, gI σ' 34 0 j = gI σ 34 0 j := by
  intro n
  induction n with
  | zero => intro y pc L st σ v σ' h; cases h
  | succ n ih =>
    intro y pc L st σ v σ' h hL hst hM
    rw [runF] at h
    cases hf : fetch y pc with
    | none => rw [hf] at h; cases h
    | some i =>
      rw [hf] at h
      dsimp only at h
      cases hs : stp y i pc L st σ with
      | none => rw [hs] at h; cases h
      | some q =>
        rw [hs] at h
        have hq := stp_ok hL hst hM hs
        obtain ⟨pc', L', st', σ1⟩ | ⟨v', σ1⟩ | ⟨y', as, pc', L', r, σ1⟩ := q
        · obtain ⟨h1, h2, h3, h4⟩ := hq
          obtain ⟨g1, g2, g3⟩ := ih _ _ _ _ _ _ _ h h1 h2 h3
          exact ⟨g1, g2, fun j => (g3 j).trans (h4 j)⟩
        · cases h
          exact hq
        · obtain ⟨h0, h1, h2, h3, rfl⟩ := hq
          dsimp only at h
          cases hc : runF n y' (0, lay0 y' as, [], σ1) with
          | none => rw [hc] at h; cases h
          | some p =>
            obtain ⟨w, σ2⟩ := p
            rw [hc] at h
            obtain ⟨g1, g2, g3⟩ := ih _ _ _ _ _ _ _ hc (lay0_ok h1) okA_nil hM
            obtain ⟨k1, k2, k3⟩ := ih _ _ _ _ _ _ _ h h2 (by
              intro u hu
              rcases List.mem_append.mp hu with hu | hu
              · exact g1 u (Option.mem_toList.mp hu)
              · exact h3 u hu) g2
            exact ⟨k1, k2, fun j => (k3 j).trans (g3 j)⟩
