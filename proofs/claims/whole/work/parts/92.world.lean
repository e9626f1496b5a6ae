/-! what the tables say of the small machine's tables; the heap's picture of its memory -/
def TX0 : u_T := fun k => match k with
  | 0 => ("UncrossedBook$Auction", "buysAt", "[I", true)
  | 1 => ("UncrossedBook$Auction", "sellsAt", "[I", true)
  | 2 => ("UncrossedBook$Auction", "price", "I", false)
  | _ => ("UncrossedBook$Auction", "volume", "I", false)
def tyX0 : Nat → FieldType := fun k => match k with
  | 0 => .array .int
  | 1 => .array .int
  | 2 => .int
  | _ => .int
def TX1 : u_T := fun k => match k with
  | 0 => ("UncrossedBook$Book", "orders", "[LUncrossedBook$Order;", true)
  | 1 => ("UncrossedBook$Book", "log", "LUncrossedBook$TradeLog;", true)
  | 2 => ("UncrossedBook$Book", "count", "I", false)
  | 3 => ("UncrossedBook$Book", "phase", "I", false)
  | 4 => ("UncrossedBook$Book", "rule", "I", false)
  | 5 => ("UncrossedBook$Book", "seed", "I", false)
  | _ => ("UncrossedBook$Book", "nextTime", "I", false)
def tyX1 : Nat → FieldType := fun k => match k with
  | 0 => .array (.object "UncrossedBook$Order")
  | 1 => .object "UncrossedBook$TradeLog"
  | 2 => .int
  | 3 => .int
  | 4 => .int
  | 5 => .int
  | _ => .int
def TX2 : u_T := fun k => match k with
  | 0 => ("UncrossedBook$Desk", "book", "LUncrossedBook$Book;", true)
  | _ => ("UncrossedBook$Desk", "passer", "LUncrossedBook$Order;", true)
def tyX2 : Nat → FieldType := fun k => match k with
  | 0 => .object "UncrossedBook$Book"
  | _ => .object "UncrossedBook$Order"
def TX3 : u_T := fun k => match k with
  | 0 => ("UncrossedBook$Order", "number", "I", true)
  | 1 => ("UncrossedBook$Order", "kind", "I", false)
  | 2 => ("UncrossedBook$Order", "owner", "I", false)
  | 3 => ("UncrossedBook$Order", "side", "I", false)
  | 4 => ("UncrossedBook$Order", "left", "I", false)
  | 5 => ("UncrossedBook$Order", "state", "I", false)
  | 6 => ("UncrossedBook$Order", "traded", "I", false)
  | 7 => ("UncrossedBook$Order", "price", "I", false)
  | 8 => ("UncrossedBook$Order", "detail", "I", false)
  | 9 => ("UncrossedBook$Order", "visible", "I", false)
  | _ => ("UncrossedBook$Order", "time", "I", false)
def tyX3 : Nat → FieldType := fun k => match k with
  | 0 => .int
  | 1 => .int
  | 2 => .int
  | 3 => .int
  | 4 => .int
  | 5 => .int
  | 6 => .int
  | 7 => .int
  | 8 => .int
  | 9 => .int
  | _ => .int
def TX4 : u_T := fun k => match k with
  | 0 => ("UncrossedBook$Ranking", "line", "[LUncrossedBook$Order;", true)
  | 1 => ("UncrossedBook$Ranking", "prices", "[I", true)
  | _ => ("UncrossedBook$Ranking", "size", "I", false)
def tyX4 : Nat → FieldType := fun k => match k with
  | 0 => .array (.object "UncrossedBook$Order")
  | 1 => .array .int
  | _ => .int
def TX5 : u_T := fun k => match k with
  | 0 => ("UncrossedBook$Shelf", "elements", "[J", true)
  | 1 => ("UncrossedBook$Shelf", "size", "I", false)
  | 2 => ("UncrossedBook$Shelf", "sort", "I", false)
  | _ => ("UncrossedBook$Shelf", "order", "I", false)
def tyX5 : Nat → FieldType := fun k => match k with
  | 0 => .array .long
  | 1 => .int
  | 2 => .int
  | _ => .int
def TX6 : u_T := fun k => match k with
  | 0 => ("UncrossedBook$TextReader", "owners", "[I", true)
  | 1 => ("UncrossedBook$TextReader", "sides", "[I", true)
  | 2 => ("UncrossedBook$TextReader", "quantities", "[I", true)
  | 3 => ("UncrossedBook$TextReader", "prices", "[I", true)
  | 4 => ("UncrossedBook$TextReader", "shows", "[I", true)
  | 5 => ("UncrossedBook$TextReader", "count", "I", false)
  | 6 => ("UncrossedBook$TextReader", "place", "I", false)
  | _ => ("UncrossedBook$TextReader", "fault", "I", false)
def tyX6 : Nat → FieldType := fun k => match k with
  | 0 => .array .int
  | 1 => .array .int
  | 2 => .array .int
  | 3 => .array .int
  | 4 => .array .int
  | 5 => .int
  | 6 => .int
  | _ => .int
def TX7 : u_T := fun k => match k with
  | 0 => ("UncrossedBook$TradeLog", "fours", "[I", true)
  | 1 => ("UncrossedBook$TradeLog", "positions", "[I", true)
  | 2 => ("UncrossedBook$TradeLog", "cash", "[I", true)
  | 3 => ("UncrossedBook$TradeLog", "count", "I", false)
  | _ => ("UncrossedBook$TradeLog", "last", "I", false)
def tyX7 : Nat → FieldType := fun k => match k with
  | 0 => .array .int
  | 1 => .array .int
  | 2 => .array .int
  | 3 => .int
  | _ => .int
def TX8 : u_T := fun k => match k with
  | 0 => ("UncrossedBook", "shelves", "[LUncrossedBook$Shelf;", true)
  | 1 => ("UncrossedBook", "refusals", "[I", true)
  | 2 => ("UncrossedBook", "desk", "LUncrossedBook$Desk;", true)
  | 3 => ("UncrossedBook", "book", "LUncrossedBook$Book;", true)
  | 4 => ("UncrossedBook", "auction", "LUncrossedBook$Auction;", true)
  | 5 => ("UncrossedBook", "ranking", "LUncrossedBook$Ranking;", true)
  | 6 => ("UncrossedBook", "reader", "LUncrossedBook$TextReader;", true)
  | 7 => ("UncrossedBook", "taken", "LUncrossedBook$Book;", true)
  | 8 => ("UncrossedBook", "hasImage", "Z", false)
  | _ => ("UncrossedBook", "latestFault", "I", false)
def tyX8 : Nat → FieldType := fun k => match k with
  | 0 => .array (.object "UncrossedBook$Shelf")
  | 1 => .array .int
  | 2 => .object "UncrossedBook$Desk"
  | 3 => .object "UncrossedBook$Book"
  | 4 => .object "UncrossedBook$Auction"
  | 5 => .object "UncrossedBook$Ranking"
  | 6 => .object "UncrossedBook$TextReader"
  | 7 => .object "UncrossedBook$Book"
  | 8 => .boolean
  | _ => .int
def TX9 : u_T := fun k => match k with
  | 0 => ("UncrossedBookModel", "thrown", "I", false)
  | 1 => ("UncrossedBookModel", "s", "[I", true)
  | 2 => ("UncrossedBookModel", "image", "[I", true)
  | 3 => ("UncrossedBookModel", "hasImage", "Z", false)
  | 4 => ("UncrossedBookModel", "refusals", "[I", true)
  | 5 => ("UncrossedBookModel", "sorts", "[I", true)
  | 6 => ("UncrossedBookModel", "sizes", "[I", true)
  | 7 => ("UncrossedBookModel", "items", "[J", true)
  | 8 => ("UncrossedBookModel", "copied", "[J", true)
  | 9 => ("UncrossedBookModel", "inOwner", "I", false)
  | 10 => ("UncrossedBookModel", "inSide", "I", false)
  | 11 => ("UncrossedBookModel", "inLeft", "I", false)
  | 12 => ("UncrossedBookModel", "inTraded", "I", false)
  | 13 => ("UncrossedBookModel", "isBarred", "Z", false)
  | 14 => ("UncrossedBookModel", "wasMet", "Z", false)
  | 15 => ("UncrossedBookModel", "text", "I", false)
  | 16 => ("UncrossedBookModel", "spot", "I", false)
  | 17 => ("UncrossedBookModel", "isWrong", "Z", false)
  | 18 => ("UncrossedBookModel", "fault", "I", false)
  | 19 => ("UncrossedBookModel", "volumeBuys", "I", false)
  | 20 => ("UncrossedBookModel", "volumeSells", "I", false)
  | 21 => ("UncrossedBookModel", "crossVolume", "I", false)
  | _ => ("UncrossedBookModel", "hasCrossed", "[Z", true)
def tyX9 : Nat → FieldType := fun k => match k with
  | 0 => .int
  | 1 => .array .int
  | 2 => .array .int
  | 3 => .boolean
  | 4 => .array .int
  | 5 => .array .int
  | 6 => .array .int
  | 7 => .array .long
  | 8 => .array .long
  | 9 => .int
  | 10 => .int
  | 11 => .int
  | 12 => .int
  | 13 => .boolean
  | 14 => .boolean
  | 15 => .int
  | 16 => .int
  | 17 => .boolean
  | 18 => .int
  | 19 => .int
  | 20 => .int
  | 21 => .int
  | _ => .array .boolean
def cT : Nat → u_T := fun c => match c with
  | 0 => TX0
  | 1 => TX1
  | 2 => TX2
  | 3 => TX3
  | 4 => TX4
  | 5 => TX5
  | 6 => TX6
  | 7 => TX7
  | 8 => TX8
  | _ => TX9
def cY : Nat → Nat → FieldType := fun c => match c with
  | 0 => tyX0
  | 1 => tyX1
  | 2 => tyX2
  | 3 => tyX3
  | 4 => tyX4
  | 5 => tyX5
  | 6 => tyX6
  | 7 => tyX7
  | 8 => tyX8
  | _ => tyX9
def cS (c : Nat) : Nat := (kinds.getD c []).length
abbrev vwCl : List vw_C := [(cN 0, TX0, 4), (cN 1, TX1, 7), (cN 2, TX2, 2), (cN 3, TX3, 11), (cN 4, TX4, 3), (cN 5, TX5, 4), (cN 6, TX6, 8), (cN 7, TX7, 5), (cN 8, TX8, 10), (cN 9, TX9, 23)]
theorem lt10 {P : Nat → Prop} (h0 : P 0) (h1 : P 1) (h2 : P 2) (h3 : P 3) (h4 : P 4) (h5 : P 5) (h6 : P 6) (h7 : P 7) (h8 : P 8) (h9 : P 9) : ∀ c, c < 10 → P c := fun c hc => match c, hc with
  | 0, _ => h0
  | 1, _ => h1
  | 2, _ => h2
  | 3, _ => h3
  | 4, _ => h4
  | 5, _ => h5
  | 6, _ => h6
  | 7, _ => h7
  | 8, _ => h8
  | 9, _ => h9
  | n + 10, h => absurd h (by omega)
theorem vw_at : ∀ c, c < 10 → vwCl[c]? = some (cN c, cT c, cS c) := lt10 rfl rfl rfl rfl rfl rfl rfl rfl rfl rfl
theorem cY_ok : ∀ c, c < 10 → ∀ k, k < cS c → parseFieldDescriptor (cT c k).2.2.1 = some (cY c k) := lt10 (by decide +kernel) (by decide +kernel) (by decide +kernel) (by decide +kernel) (by decide +kernel) (by decide +kernel) (by decide +kernel) (by decide +kernel) (by decide +kernel) (by decide +kernel)
theorem cN_ap : ∀ c, c < 10 → ∀ a, a < cS c → ∀ b, b < cS c → a ≠ b → (cT c a).2.1 ≠ (cT c b).2.1 := lt10 (by decide +kernel) (by decide +kernel) (by decide +kernel) (by decide +kernel) (by decide +kernel) (by decide +kernel) (by decide +kernel) (by decide +kernel) (by decide +kernel) (by decide +kernel)
theorem cW_in : ∀ c, c < 10 → ∀ w ∈ u_ws (cN c) (cT c) (cS c), w ∈ lw_tbl := lt10 (by decide +kernel) (by decide +kernel) (by decide +kernel) (by decide +kernel) (by decide +kernel) (by decide +kernel) (by decide +kernel) (by decide +kernel) (by decide +kernel) (by decide +kernel)
/-- a word by its place -/
def wP (p : Nat) : Option Cond := match p / 1000 with
  | 0 => (k2_sels lw_privs)[p % 1000]?
  | 1 => tables_1_1[p % 1000]?
  | 2 => tables_1_2[p % 1000]?
  | 3 => tables_1_3[p % 1000]?
  | 4 => tables_1_4[p % 1000]?
  | 5 => tables_1_5[p % 1000]?
  | 6 => tables_1_6[p % 1000]?
  | _ => none
theorem wP_mem {p : Nat} {w : Cond} (h : wP p = some w) : w ∈ lw_tbl := by
  unfold lw_tbl tables_1
  unfold wP at h
  split at h
  · exact List.mem_append_left _ (List.mem_of_getElem? h)
  · exact List.mem_append_right _ (List.mem_append_left _ (List.mem_of_getElem? h))
  · exact List.mem_append_right _ (List.mem_append_right _ (List.mem_append_left _ (List.mem_of_getElem? h)))
  · exact List.mem_append_right _ (List.mem_append_right _ (List.mem_append_right _ (List.mem_append_left _ (List.mem_of_getElem? h))))
  · exact List.mem_append_right _ (List.mem_append_right _ (List.mem_append_right _ (List.mem_append_right _ (List.mem_append_left _ (List.mem_of_getElem? h)))))
  · exact List.mem_append_right _ (List.mem_append_right _ (List.mem_append_right _ (List.mem_append_right _ (List.mem_append_right _ (List.mem_append_left _ (List.mem_of_getElem? h))))))
  · exact List.mem_append_right _ (List.mem_append_right _ (List.mem_append_right _ (List.mem_append_right _ (List.mem_append_right _ (List.mem_append_right _ (List.mem_of_getElem? h))))))
  · cases h
/-- the words that keep -/
def TB : List Cond := lw_tbl.filter goodWord
theorem inTB {w : Cond} (h : w ∈ lw_tbl) (hg : goodWord w = true) : w ∈ TB := List.mem_filter.mpr ⟨h, hg⟩
theorem TB_good {w : Cond} (h : w ∈ TB) : goodWord w = true := (List.mem_filter.mp h).2
theorem getD_out {α : Type} {l : List α} {n : Nat} {d : α} (h : l.length ≤ n) : l.getD n d = d := by
  rw [List.getD_eq_getElem?_getD, List.getElem?_eq_none h]
  rfl
theorem slot_ok : ∀ c, c < 10 → ∀ k, k < cS c → (sK c k = 0 ∧ (cT c k).2.2.2 = false ∧ parseFieldDescriptor (cT c k).2.2.1 = some .int) ∨ (sK c k = 1 ∧ (cT c k).2.2.2 = false ∧ parseFieldDescriptor (cT c k).2.2.1 = some .boolean) ∨ sK c k = 2 ∨ sK c k = 3 := lt10 (by decide +kernel) (by decide +kernel) (by decide +kernel) (by decide +kernel) (by decide +kernel) (by decide +kernel) (by decide +kernel) (by decide +kernel) (by decide +kernel) (by decide +kernel)
theorem fld_tbl : ∀ o, o < 10 → ∀ q ∈ fldT.getD o [], q.2.1.1 < 10 ∧ q.2.1.2 < cS q.2.1.1 ∧ wP q.2.2 = some (Cond.fieldLink (cN o) q.1 (cT q.2.1.1 q.2.1.2).1 (cT q.2.1.1 q.2.1.2).2.1 (cT q.2.1.1 q.2.1.2).2.2.1) := lt10 (by decide +kernel) (by decide +kernel) (by decide +kernel) (by decide +kernel) (by decide +kernel) (by decide +kernel) (by decide +kernel) (by decide +kernel) (by decide +kernel) (by decide +kernel)
theorem fld_none : ∀ o, ¬ o < 10 → fldT.getD o [] = [] := by
  intro o h
  rcases (show o = 10 ∨ o = 11 ∨ o = 12 ∨ 13 ≤ o by omega) with rfl | rfl | rfl | h
  · rfl
  · rfl
  · rfl
  · rw [getD_out]
    exact Nat.le_trans (Nat.le_of_ble_eq_true rfl) h
theorem fld_ok {o x c k : Nat} (h : fld o x = some (c, k)) : c < 10 ∧ k < cS c ∧ Cond.fieldLink (cN o) x (cT c k).1 (cT c k).2.1 (cT c k).2.2.1 ∈ lw_tbl := by
  unfold fld at h
  cases hf : (fldT.getD o []).find? (fun q => q.1 == x) with
  | none => rw [hf] at h; cases h
  | some q =>
    rw [hf] at h
    obtain ⟨x', ⟨c', k'⟩, p⟩ := q
    have hm := List.mem_of_find?_eq_some hf
    have hx := List.find?_some hf
    have hx : x' = x := by simpa using hx
    simp only [Option.map_some, Option.some.injEq, Prod.mk.injEq] at h
    obtain ⟨rfl, rfl⟩ := h
    subst hx
    by_cases ho : o < 10
    · obtain ⟨h1, h2, h3⟩ := fld_tbl o ho _ hm
      exact ⟨h1, h2, wP_mem h3⟩
    · rw [fld_none o ho] at hm
      cases hm
/-- what a call's words are, by its row -/
def siteOk (o : Nat) (q : Nat × (Nat × Nat × Nat) × Nat) : Bool := match q with
  | (x, (0, n, y), p) => decide (y < 213) && decide (mC y < 10) && decide ((parseMethodDescriptor (mNm y).desc).map (fun d => d.parameters.length) = some n) && decide (wP p = some (Cond.methodLink (cN o) x (mNm y))) && decide (wP (mPt.getD y (9999, 9999, 9999)).2.1 = some (Cond.instanceMethod (mNm y))) && decide (wP (mPt.getD y (9999, 9999, 9999)).2.2 = some (Cond.selects (cN (mC y)) (mNm y) (mNm y)))
  | (x, (1, n, y), p) => decide (y < 213) && decide ((parseMethodDescriptor (mNm y).desc).map (fun d => d.parameters.length) = some n) && decide (wP p = some (Cond.methodLink (cN o) x (mNm y))) && decide (wP (mPt.getD y (9999, 9999, 9999)).2.1 = some (Cond.static (mNm y)))
  | (x, (2, n, y), p) => decide (y < 213) && decide ((parseMethodDescriptor (mNm y).desc).map (fun d => d.parameters.length) = some n) && decide (wP p = some (Cond.methodLinkNest (cN o) x (mNm y) "UncrossedBook")) && decide (wP (mPt.getD y (9999, 9999, 9999)).2.1 = some (Cond.static (mNm y)))
  | (x, (3, _, _), p) => decide (wP p = some (Cond.methodLink (cN o) x arraycopyName))
  | (x, (4, _, _), p) => decide (wP p = some (Cond.methodLink (cN o) x Lib.Math.min.name))
  | (x, (5, _, _), p) => decide (wP p = some (Cond.methodLink (cN o) x Lib.Math.abs.name))
  | _ => false
theorem site_tbl0 : ∀ o, o < 10 → (siteT.getD o []).all (siteOk o) = true := lt10 (by decide +kernel) (by decide +kernel) (by decide +kernel) (by decide +kernel) (by decide +kernel) (by decide +kernel) (by decide +kernel) (by decide +kernel) (by decide +kernel) (by decide +kernel)
theorem site_tbl12 : (siteT.getD 12 []).all (siteOk 12) = true := by decide +kernel
theorem site_tbl (o : Nat) : (siteT.getD o []).all (siteOk o) = true := by
  rcases (show o < 10 ∨ o = 10 ∨ o = 11 ∨ o = 12 ∨ 13 ≤ o by omega) with h | rfl | rfl | rfl | h
  · exact site_tbl0 o h
  · rfl
  · rfl
  · exact site_tbl12
  · rw [getD_out]
    · rfl
    · exact Nat.le_trans (Nat.le_of_ble_eq_true rfl) h
theorem site_ok {o x : Nat} {q : Nat × Nat × Nat} (h : site o x = some q) : ∃ p, siteOk o (x, q, p) = true := by
  unfold site at h
  cases hf : (siteT.getD o []).find? (fun q => q.1 == x) with
  | none => rw [hf] at h; cases h
  | some p =>
    rw [hf] at h
    obtain ⟨x', p', pl⟩ := p
    have hm := List.mem_of_find?_eq_some hf
    have hx := List.find?_some hf
    have hx : x' = x := by simpa using hx
    simp only [Option.map_some, Option.some.injEq] at h
    subst h; subst hx
    exact ⟨pl, List.all_eq_true.mp (site_tbl o) _ hm⟩
theorem acp_ok : Cond.native arraycopyName ∈ TB ∧ Cond.static arraycopyName ∈ TB ∧ Cond.initialized "java/lang/System" ∈ TB := ⟨inTB (wP_mem (p := 2131) (by decide +kernel)) rfl, inTB (wP_mem (p := 2130) (by decide +kernel)) rfl, inTB (wP_mem (p := 1012) (by decide +kernel)) rfl⟩
theorem mth_ok : (Cond.static Lib.Math.min.name ∈ TB ∧ Cond.code Lib.Math.min.name Lib.Math.min.code 2 (some .int) ∈ TB) ∧ (Cond.static Lib.Math.abs.name ∈ TB ∧ Cond.code Lib.Math.abs.name Lib.Math.abs.code 1 (some .int) ∈ TB) := ⟨⟨inTB (wP_mem (p := 2224) (by decide +kernel)) rfl, inTB (wP_mem (p := 2225) (by decide +kernel)) rfl⟩, inTB (wP_mem (p := 3168) (by decide +kernel)) rfl, inTB (wP_mem (p := 3169) (by decide +kernel)) rfl⟩
theorem ini_ok : ∀ c, c < 12 → wP (iPt.getD c 9999) = some (Cond.initialized (cN c)) := by decide +kernel
/-- a method's words -/
def mOk (y : Nat) : Bool := plainName (cN (mC y)) && decide (cN (mC y) ≠ "java/lang/invoke/MethodHandle") && decide (cN (mC y) ≠ "java/lang/invoke/VarHandle") && decide (mC y < 12)
theorem m_tbl : (List.range 213).all mOk = true := by decide +kernel
theorem m_ok {y : Nat} (h : y < 213) : mOk y = true := List.all_eq_true.mp m_tbl y (List.mem_range.mpr h)
def mCw (y : Nat) : Prop := Cond.code (mNm y) (mCd y) (mL y) (mRt y) ∈ lw_tbl
theorem mc_0 : mCw 0 := wP_mem (p := 1186) rfl
theorem mc_1 : mCw 1 := wP_mem (p := 3157) rfl
theorem mc_2 : mCw 2 := wP_mem (p := 3161) rfl
theorem mc_3 : mCw 3 := wP_mem (p := 1034) rfl
theorem mc_4 : mCw 4 := wP_mem (p := 4063) rfl
theorem mc_5 : mCw 5 := wP_mem (p := 2144) rfl
theorem mc_6 : mCw 6 := wP_mem (p := 2229) rfl
theorem mc_7 : mCw 7 := wP_mem (p := 2218) rfl
theorem mc_8 : mCw 8 := wP_mem (p := 2176) rfl
theorem mc_9 : mCw 9 := wP_mem (p := 2172) rfl
theorem mc_10 : mCw 10 := wP_mem (p := 2168) rfl
theorem mc_11 : mCw 11 := wP_mem (p := 3181) rfl
theorem mc_12 : mCw 12 := wP_mem (p := 4050) rfl
theorem mc_13 : mCw 13 := wP_mem (p := 1028) rfl
theorem mc_14 : mCw 14 := wP_mem (p := 2210) rfl
theorem mc_15 : mCw 15 := wP_mem (p := 3088) rfl
theorem mc_16 : mCw 16 := wP_mem (p := 3145) rfl
theorem mc_17 : mCw 17 := wP_mem (p := 3173) rfl
theorem mc_18 : mCw 18 := wP_mem (p := 2233) rfl
theorem mc_19 : mCw 19 := wP_mem (p := 3043) rfl
theorem mc_20 : mCw 20 := wP_mem (p := 3068) rfl
theorem mc_21 : mCw 21 := wP_mem (p := 3053) rfl
theorem mc_22 : mCw 22 := wP_mem (p := 3047) rfl
theorem mc_23 : mCw 23 := wP_mem (p := 3004) rfl
theorem mc_24 : mCw 24 := wP_mem (p := 2237) rfl
theorem mc_25 : mCw 25 := wP_mem (p := 3020) rfl
theorem mc_26 : mCw 26 := wP_mem (p := 3037) rfl
theorem mc_27 : mCw 27 := wP_mem (p := 3025) rfl
theorem mc_28 : mCw 28 := wP_mem (p := 3008) rfl
theorem mc_29 : mCw 29 := wP_mem (p := 3012) rfl
theorem mc_30 : mCw 30 := wP_mem (p := 3057) rfl
theorem mc_31 : mCw 31 := wP_mem (p := 3061) rfl
theorem mc_32 : mCw 32 := wP_mem (p := 3065) rfl
theorem mc_33 : mCw 33 := wP_mem (p := 1070) rfl
theorem mc_34 : mCw 34 := wP_mem (p := 2214) rfl
theorem mc_35 : mCw 35 := wP_mem (p := 4067) rfl
theorem mc_36 : mCw 36 := wP_mem (p := 2160) rfl
theorem mc_37 : mCw 37 := wP_mem (p := 3141) rfl
theorem mc_38 : mCw 38 := wP_mem (p := 2180) rfl
theorem mc_39 : mCw 39 := wP_mem (p := 2164) rfl
theorem mc_40 : mCw 40 := wP_mem (p := 2188) rfl
theorem mc_41 : mCw 41 := wP_mem (p := 2184) rfl
theorem mc_42 : mCw 42 := wP_mem (p := 3033) rfl
theorem mc_43 : mCw 43 := wP_mem (p := 3016) rfl
theorem mc_44 : mCw 44 := wP_mem (p := 2222) rfl
theorem mc_45 : mCw 45 := wP_mem (p := 1207) rfl
theorem mc_46 : mCw 46 := wP_mem (p := 3201) rfl
theorem mc_47 : mCw 47 := wP_mem (p := 3208) rfl
theorem mc_48 : mCw 48 := wP_mem (p := 3213) rfl
theorem mc_49 : mCw 49 := wP_mem (p := 3221) rfl
theorem mc_50 : mCw 50 := wP_mem (p := 3225) rfl
theorem mc_51 : mCw 51 := wP_mem (p := 3234) rfl
theorem mc_52 : mCw 52 := wP_mem (p := 4004) rfl
theorem mc_53 : mCw 53 := wP_mem (p := 2022) rfl
theorem mc_54 : mCw 54 := wP_mem (p := 2092) rfl
theorem mc_55 : mCw 55 := wP_mem (p := 2148) rfl
theorem mc_56 : mCw 56 := wP_mem (p := 2088) rfl
theorem mc_57 : mCw 57 := wP_mem (p := 2111) rfl
theorem mc_58 : mCw 58 := wP_mem (p := 2107) rfl
theorem mc_59 : mCw 59 := wP_mem (p := 2115) rfl
theorem mc_60 : mCw 60 := wP_mem (p := 2128) rfl
theorem mc_61 : mCw 61 := wP_mem (p := 2119) rfl
theorem mc_62 : mCw 62 := wP_mem (p := 3112) rfl
theorem mc_63 : mCw 63 := wP_mem (p := 1224) rfl
theorem mc_64 : mCw 64 := wP_mem (p := 3096) rfl
theorem mc_65 : mCw 65 := wP_mem (p := 3100) rfl
theorem mc_66 : mCw 66 := wP_mem (p := 3108) rfl
theorem mc_67 : mCw 67 := wP_mem (p := 3116) rfl
theorem mc_68 : mCw 68 := wP_mem (p := 3104) rfl
theorem mc_69 : mCw 69 := wP_mem (p := 3120) rfl
theorem mc_70 : mCw 70 := wP_mem (p := 3124) rfl
theorem mc_71 : mCw 71 := wP_mem (p := 1042) rfl
theorem mc_72 : mCw 72 := wP_mem (p := 4071) rfl
theorem mc_73 : mCw 73 := wP_mem (p := 3029) rfl
theorem mc_74 : mCw 74 := wP_mem (p := 4017) rfl
theorem mc_75 : mCw 75 := wP_mem (p := 4021) rfl
theorem mc_76 : mCw 76 := wP_mem (p := 4040) rfl
theorem mc_77 : mCw 77 := wP_mem (p := 1018) rfl
theorem mc_78 : mCw 78 := wP_mem (p := 2077) rfl
theorem mc_79 : mCw 79 := wP_mem (p := 2099) rfl
theorem mc_80 : mCw 80 := wP_mem (p := 2124) rfl
theorem mc_81 : mCw 81 := wP_mem (p := 2135) rfl
theorem mc_82 : mCw 82 := wP_mem (p := 2139) rfl
theorem mc_83 : mCw 83 := wP_mem (p := 2152) rfl
theorem mc_84 : mCw 84 := wP_mem (p := 2156) rfl
theorem mc_85 : mCw 85 := wP_mem (p := 2195) rfl
theorem mc_86 : mCw 86 := wP_mem (p := 3072) rfl
theorem mc_87 : mCw 87 := wP_mem (p := 3076) rfl
theorem mc_88 : mCw 88 := wP_mem (p := 3080) rfl
theorem mc_89 : mCw 89 := wP_mem (p := 3084) rfl
theorem mc_90 : mCw 90 := wP_mem (p := 3092) rfl
theorem mc_91 : mCw 91 := wP_mem (p := 3129) rfl
theorem mc_92 : mCw 92 := wP_mem (p := 3133) rfl
theorem mc_93 : mCw 93 := wP_mem (p := 3137) rfl
theorem mc_94 : mCw 94 := wP_mem (p := 3149) rfl
theorem mc_95 : mCw 95 := wP_mem (p := 3153) rfl
theorem mc_96 : mCw 96 := wP_mem (p := 3177) rfl
theorem mc_97 : mCw 97 := wP_mem (p := 3185) rfl
theorem mc_98 : mCw 98 := wP_mem (p := 3189) rfl
theorem mc_99 : mCw 99 := wP_mem (p := 3193) rfl
theorem mc_100 : mCw 100 := wP_mem (p := 3217) rfl
theorem mc_101 : mCw 101 := wP_mem (p := 3230) rfl
theorem mc_102 : mCw 102 := wP_mem (p := 3238) rfl
theorem mc_103 : mCw 103 := wP_mem (p := 4009) rfl
theorem mc_104 : mCw 104 := wP_mem (p := 4013) rfl
theorem mc_105 : mCw 105 := wP_mem (p := 4026) rfl
theorem mc_106 : mCw 106 := wP_mem (p := 4031) rfl
theorem mc_107 : mCw 107 := wP_mem (p := 4036) rfl
theorem mc_108 : mCw 108 := wP_mem (p := 4046) rfl
theorem mc_109 : mCw 109 := wP_mem (p := 4055) rfl
theorem mc_110 : mCw 110 := wP_mem (p := 4059) rfl
theorem mc_111 : mCw 111 := wP_mem (p := 4076) rfl
theorem mc_112 : mCw 112 := wP_mem (p := 4080) rfl
theorem mc_113 : mCw 113 := wP_mem (p := 2084) rfl
theorem mc_114 : mCw 114 := wP_mem (p := 3197) rfl
theorem mc_115 : mCw 115 := wP_mem (p := 2103) rfl
theorem mc_116 : mCw 116 := wP_mem (p := 2200) rfl
theorem mc_117 : mCw 117 := wP_mem (p := 2080) rfl
theorem mc_118 : mCw 118 := wP_mem (p := 2203) rfl
theorem mc_119 : mCw 119 := wP_mem (p := 2206) rfl
theorem mc_120 : mCw 120 := wP_mem (p := 2191) rfl
theorem mc_121 : mCw 121 := wP_mem (p := 3000) rfl
theorem mc_122 : mCw 122 := wP_mem (p := 4085) rfl
theorem mc_123 : mCw 123 := wP_mem (p := 4166) rfl
theorem mc_124 : mCw 124 := wP_mem (p := 4170) rfl
theorem mc_125 : mCw 125 := wP_mem (p := 5201) rfl
theorem mc_126 : mCw 126 := wP_mem (p := 4198) rfl
theorem mc_127 : mCw 127 := wP_mem (p := 4219) rfl
theorem mc_128 : mCw 128 := wP_mem (p := 4216) rfl
theorem mc_129 : mCw 129 := wP_mem (p := 4209) rfl
theorem mc_130 : mCw 130 := wP_mem (p := 4163) rfl
theorem mc_131 : mCw 131 := wP_mem (p := 4160) rfl
theorem mc_132 : mCw 132 := wP_mem (p := 4178) rfl
theorem mc_133 : mCw 133 := wP_mem (p := 4174) rfl
theorem mc_134 : mCw 134 := wP_mem (p := 4182) rfl
theorem mc_135 : mCw 135 := wP_mem (p := 4190) rfl
theorem mc_136 : mCw 136 := wP_mem (p := 4186) rfl
theorem mc_137 : mCw 137 := wP_mem (p := 4194) rfl
theorem mc_138 : mCw 138 := wP_mem (p := 4202) rfl
theorem mc_139 : mCw 139 := wP_mem (p := 5019) rfl
theorem mc_140 : mCw 140 := wP_mem (p := 5015) rfl
theorem mc_141 : mCw 141 := wP_mem (p := 5023) rfl
theorem mc_142 : mCw 142 := wP_mem (p := 5011) rfl
theorem mc_143 : mCw 143 := wP_mem (p := 5050) rfl
theorem mc_144 : mCw 144 := wP_mem (p := 5042) rfl
theorem mc_145 : mCw 145 := wP_mem (p := 5007) rfl
theorem mc_146 : mCw 146 := wP_mem (p := 5197) rfl
theorem mc_147 : mCw 147 := wP_mem (p := 5038) rfl
theorem mc_148 : mCw 148 := wP_mem (p := 5026) rfl
theorem mc_149 : mCw 149 := wP_mem (p := 5058) rfl
theorem mc_150 : mCw 150 := wP_mem (p := 5062) rfl
theorem mc_151 : mCw 151 := wP_mem (p := 4239) rfl
theorem mc_152 : mCw 152 := wP_mem (p := 4235) rfl
theorem mc_153 : mCw 153 := wP_mem (p := 4231) rfl
theorem mc_154 : mCw 154 := wP_mem (p := 5054) rfl
theorem mc_155 : mCw 155 := wP_mem (p := 5046) rfl
theorem mc_156 : mCw 156 := wP_mem (p := 5034) rfl
theorem mc_157 : mCw 157 := wP_mem (p := 5030) rfl
theorem mc_158 : mCw 158 := wP_mem (p := 5070) rfl
theorem mc_159 : mCw 159 := wP_mem (p := 5066) rfl
theorem mc_160 : mCw 160 := wP_mem (p := 4223) rfl
theorem mc_161 : mCw 161 := wP_mem (p := 5003) rfl
theorem mc_162 : mCw 162 := wP_mem (p := 4227) rfl
theorem mc_163 : mCw 163 := wP_mem (p := 4213) rfl
theorem mc_164 : mCw 164 := wP_mem (p := 4206) rfl
theorem mc_165 : mCw 165 := wP_mem (p := 5074) rfl
theorem mc_166 : mCw 166 := wP_mem (p := 5078) rfl
theorem mc_167 : mCw 167 := wP_mem (p := 5082) rfl
theorem mc_168 : mCw 168 := wP_mem (p := 5086) rfl
theorem mc_169 : mCw 169 := wP_mem (p := 5106) rfl
theorem mc_170 : mCw 170 := wP_mem (p := 5110) rfl
theorem mc_171 : mCw 171 := wP_mem (p := 5102) rfl
theorem mc_172 : mCw 172 := wP_mem (p := 5118) rfl
theorem mc_173 : mCw 173 := wP_mem (p := 5114) rfl
theorem mc_174 : mCw 174 := wP_mem (p := 5098) rfl
theorem mc_175 : mCw 175 := wP_mem (p := 5094) rfl
theorem mc_176 : mCw 176 := wP_mem (p := 5090) rfl
theorem mc_177 : mCw 177 := wP_mem (p := 5122) rfl
theorem mc_178 : mCw 178 := wP_mem (p := 5130) rfl
theorem mc_179 : mCw 179 := wP_mem (p := 5126) rfl
theorem mc_180 : mCw 180 := wP_mem (p := 5134) rfl
theorem mc_181 : mCw 181 := wP_mem (p := 5138) rfl
theorem mc_182 : mCw 182 := wP_mem (p := 5150) rfl
theorem mc_183 : mCw 183 := wP_mem (p := 5153) rfl
theorem mc_184 : mCw 184 := wP_mem (p := 5146) rfl
theorem mc_185 : mCw 185 := wP_mem (p := 5157) rfl
theorem mc_186 : mCw 186 := wP_mem (p := 5161) rfl
theorem mc_187 : mCw 187 := wP_mem (p := 5142) rfl
theorem mc_188 : mCw 188 := wP_mem (p := 5169) rfl
theorem mc_189 : mCw 189 := wP_mem (p := 5165) rfl
theorem mc_190 : mCw 190 := wP_mem (p := 5173) rfl
theorem mc_191 : mCw 191 := wP_mem (p := 5181) rfl
theorem mc_192 : mCw 192 := wP_mem (p := 5177) rfl
theorem mc_193 : mCw 193 := wP_mem (p := 5185) rfl
theorem mc_194 : mCw 194 := wP_mem (p := 5193) rfl
theorem mc_195 : mCw 195 := wP_mem (p := 5189) rfl
theorem mc_196 : mCw 196 := wP_mem (p := 5205) rfl
theorem mc_197 : mCw 197 := wP_mem (p := 5209) rfl
theorem mc_198 : mCw 198 := wP_mem (p := 5213) rfl
theorem mc_199 : mCw 199 := wP_mem (p := 5218) rfl
theorem mc_200 : mCw 200 := wP_mem (p := 5226) rfl
theorem mc_201 : mCw 201 := wP_mem (p := 5222) rfl
theorem mc_202 : mCw 202 := wP_mem (p := 5230) rfl
theorem mc_203 : mCw 203 := wP_mem (p := 5235) rfl
theorem mc_204 : mCw 204 := wP_mem (p := 6000) rfl
theorem mc_205 : mCw 205 := wP_mem (p := 6008) rfl
theorem mc_206 : mCw 206 := wP_mem (p := 6004) rfl
theorem mc_207 : mCw 207 := wP_mem (p := 6013) rfl
theorem mc_208 : mCw 208 := wP_mem (p := 6017) rfl
theorem mc_209 : mCw 209 := wP_mem (p := 6021) rfl
theorem mc_210 : mCw 210 := wP_mem (p := 6025) rfl
theorem mc_211 : mCw 211 := wP_mem (p := 2095) rfl
theorem mc_212 : mCw 212 := wP_mem (p := 3164) rfl
set_option maxRecDepth 10000 in
theorem mcl_0 : ∀ y ∈ ([0, 1, 2, 3, 4, 5, 6, 7, 8, 9, 10, 11, 12, 13, 14, 15, 16, 17, 18, 19, 20, 21, 22, 23, 24, 25, 26, 27, 28, 29, 30, 31, 32, 33, 34, 35, 36, 37, 38, 39] : List Nat), mCw y := List.forall_mem_cons.mpr ⟨mc_0, List.forall_mem_cons.mpr ⟨mc_1, List.forall_mem_cons.mpr ⟨mc_2, List.forall_mem_cons.mpr ⟨mc_3, List.forall_mem_cons.mpr ⟨mc_4, List.forall_mem_cons.mpr ⟨mc_5, List.forall_mem_cons.mpr ⟨mc_6, List.forall_mem_cons.mpr ⟨mc_7, List.forall_mem_cons.mpr ⟨mc_8, List.forall_mem_cons.mpr ⟨mc_9, List.forall_mem_cons.mpr ⟨mc_10, List.forall_mem_cons.mpr ⟨mc_11, List.forall_mem_cons.mpr ⟨mc_12, List.forall_mem_cons.mpr ⟨mc_13, List.forall_mem_cons.mpr ⟨mc_14, List.forall_mem_cons.mpr ⟨mc_15, List.forall_mem_cons.mpr ⟨mc_16, List.forall_mem_cons.mpr ⟨mc_17, List.forall_mem_cons.mpr ⟨mc_18, List.forall_mem_cons.mpr ⟨mc_19, List.forall_mem_cons.mpr ⟨mc_20, List.forall_mem_cons.mpr ⟨mc_21, List.forall_mem_cons.mpr ⟨mc_22, List.forall_mem_cons.mpr ⟨mc_23, List.forall_mem_cons.mpr ⟨mc_24, List.forall_mem_cons.mpr ⟨mc_25, List.forall_mem_cons.mpr ⟨mc_26, List.forall_mem_cons.mpr ⟨mc_27, List.forall_mem_cons.mpr ⟨mc_28, List.forall_mem_cons.mpr ⟨mc_29, List.forall_mem_cons.mpr ⟨mc_30, List.forall_mem_cons.mpr ⟨mc_31, List.forall_mem_cons.mpr ⟨mc_32, List.forall_mem_cons.mpr ⟨mc_33, List.forall_mem_cons.mpr ⟨mc_34, List.forall_mem_cons.mpr ⟨mc_35, List.forall_mem_cons.mpr ⟨mc_36, List.forall_mem_cons.mpr ⟨mc_37, List.forall_mem_cons.mpr ⟨mc_38, List.forall_mem_cons.mpr ⟨mc_39, fun _ h => absurd h List.not_mem_nil⟩⟩⟩⟩⟩⟩⟩⟩⟩⟩⟩⟩⟩⟩⟩⟩⟩⟩⟩⟩⟩⟩⟩⟩⟩⟩⟩⟩⟩⟩⟩⟩⟩⟩⟩⟩⟩⟩⟩⟩
set_option maxRecDepth 10000 in
theorem mcl_1 : ∀ y ∈ ([40, 41, 42, 43, 44, 45, 46, 47, 48, 49, 50, 51, 52, 53, 54, 55, 56, 57, 58, 59, 60, 61, 62, 63, 64, 65, 66, 67, 68, 69, 70, 71, 72, 73, 74, 75, 76, 77, 78, 79] : List Nat), mCw y := List.forall_mem_cons.mpr ⟨mc_40, List.forall_mem_cons.mpr ⟨mc_41, List.forall_mem_cons.mpr ⟨mc_42, List.forall_mem_cons.mpr ⟨mc_43, List.forall_mem_cons.mpr ⟨mc_44, List.forall_mem_cons.mpr ⟨mc_45, List.forall_mem_cons.mpr ⟨mc_46, List.forall_mem_cons.mpr ⟨mc_47, List.forall_mem_cons.mpr ⟨mc_48, List.forall_mem_cons.mpr ⟨mc_49, List.forall_mem_cons.mpr ⟨mc_50, List.forall_mem_cons.mpr ⟨mc_51, List.forall_mem_cons.mpr ⟨mc_52, List.forall_mem_cons.mpr ⟨mc_53, List.forall_mem_cons.mpr ⟨mc_54, List.forall_mem_cons.mpr ⟨mc_55, List.forall_mem_cons.mpr ⟨mc_56, List.forall_mem_cons.mpr ⟨mc_57, List.forall_mem_cons.mpr ⟨mc_58, List.forall_mem_cons.mpr ⟨mc_59, List.forall_mem_cons.mpr ⟨mc_60, List.forall_mem_cons.mpr ⟨mc_61, List.forall_mem_cons.mpr ⟨mc_62, List.forall_mem_cons.mpr ⟨mc_63, List.forall_mem_cons.mpr ⟨mc_64, List.forall_mem_cons.mpr ⟨mc_65, List.forall_mem_cons.mpr ⟨mc_66, List.forall_mem_cons.mpr ⟨mc_67, List.forall_mem_cons.mpr ⟨mc_68, List.forall_mem_cons.mpr ⟨mc_69, List.forall_mem_cons.mpr ⟨mc_70, List.forall_mem_cons.mpr ⟨mc_71, List.forall_mem_cons.mpr ⟨mc_72, List.forall_mem_cons.mpr ⟨mc_73, List.forall_mem_cons.mpr ⟨mc_74, List.forall_mem_cons.mpr ⟨mc_75, List.forall_mem_cons.mpr ⟨mc_76, List.forall_mem_cons.mpr ⟨mc_77, List.forall_mem_cons.mpr ⟨mc_78, List.forall_mem_cons.mpr ⟨mc_79, fun _ h => absurd h List.not_mem_nil⟩⟩⟩⟩⟩⟩⟩⟩⟩⟩⟩⟩⟩⟩⟩⟩⟩⟩⟩⟩⟩⟩⟩⟩⟩⟩⟩⟩⟩⟩⟩⟩⟩⟩⟩⟩⟩⟩⟩⟩
set_option maxRecDepth 10000 in
theorem mcl_2 : ∀ y ∈ ([80, 81, 82, 83, 84, 85, 86, 87, 88, 89, 90, 91, 92, 93, 94, 95, 96, 97, 98, 99, 100, 101, 102, 103, 104, 105, 106, 107, 108, 109, 110, 111, 112, 113, 114, 115, 116, 117, 118, 119] : List Nat), mCw y := List.forall_mem_cons.mpr ⟨mc_80, List.forall_mem_cons.mpr ⟨mc_81, List.forall_mem_cons.mpr ⟨mc_82, List.forall_mem_cons.mpr ⟨mc_83, List.forall_mem_cons.mpr ⟨mc_84, List.forall_mem_cons.mpr ⟨mc_85, List.forall_mem_cons.mpr ⟨mc_86, List.forall_mem_cons.mpr ⟨mc_87, List.forall_mem_cons.mpr ⟨mc_88, List.forall_mem_cons.mpr ⟨mc_89, List.forall_mem_cons.mpr ⟨mc_90, List.forall_mem_cons.mpr ⟨mc_91, List.forall_mem_cons.mpr ⟨mc_92, List.forall_mem_cons.mpr ⟨mc_93, List.forall_mem_cons.mpr ⟨mc_94, List.forall_mem_cons.mpr ⟨mc_95, List.forall_mem_cons.mpr ⟨mc_96, List.forall_mem_cons.mpr ⟨mc_97, List.forall_mem_cons.mpr ⟨mc_98, List.forall_mem_cons.mpr ⟨mc_99, List.forall_mem_cons.mpr ⟨mc_100, List.forall_mem_cons.mpr ⟨mc_101, List.forall_mem_cons.mpr ⟨mc_102, List.forall_mem_cons.mpr ⟨mc_103, List.forall_mem_cons.mpr ⟨mc_104, List.forall_mem_cons.mpr ⟨mc_105, List.forall_mem_cons.mpr ⟨mc_106, List.forall_mem_cons.mpr ⟨mc_107, List.forall_mem_cons.mpr ⟨mc_108, List.forall_mem_cons.mpr ⟨mc_109, List.forall_mem_cons.mpr ⟨mc_110, List.forall_mem_cons.mpr ⟨mc_111, List.forall_mem_cons.mpr ⟨mc_112, List.forall_mem_cons.mpr ⟨mc_113, List.forall_mem_cons.mpr ⟨mc_114, List.forall_mem_cons.mpr ⟨mc_115, List.forall_mem_cons.mpr ⟨mc_116, List.forall_mem_cons.mpr ⟨mc_117, List.forall_mem_cons.mpr ⟨mc_118, List.forall_mem_cons.mpr ⟨mc_119, fun _ h => absurd h List.not_mem_nil⟩⟩⟩⟩⟩⟩⟩⟩⟩⟩⟩⟩⟩⟩⟩⟩⟩⟩⟩⟩⟩⟩⟩⟩⟩⟩⟩⟩⟩⟩⟩⟩⟩⟩⟩⟩⟩⟩⟩⟩
set_option maxRecDepth 10000 in
theorem mcl_3 : ∀ y ∈ ([120, 121, 122, 123, 124, 125, 126, 127, 128, 129, 130, 131, 132, 133, 134, 135, 136, 137, 138, 139, 140, 141, 142, 143, 144, 145, 146, 147, 148, 149, 150, 151, 152, 153, 154, 155, 156, 157, 158, 159] : List Nat), mCw y := List.forall_mem_cons.mpr ⟨mc_120, List.forall_mem_cons.mpr ⟨mc_121, List.forall_mem_cons.mpr ⟨mc_122, List.forall_mem_cons.mpr ⟨mc_123, List.forall_mem_cons.mpr ⟨mc_124, List.forall_mem_cons.mpr ⟨mc_125, List.forall_mem_cons.mpr ⟨mc_126, List.forall_mem_cons.mpr ⟨mc_127, List.forall_mem_cons.mpr ⟨mc_128, List.forall_mem_cons.mpr ⟨mc_129, List.forall_mem_cons.mpr ⟨mc_130, List.forall_mem_cons.mpr ⟨mc_131, List.forall_mem_cons.mpr ⟨mc_132, List.forall_mem_cons.mpr ⟨mc_133, List.forall_mem_cons.mpr ⟨mc_134, List.forall_mem_cons.mpr ⟨mc_135, List.forall_mem_cons.mpr ⟨mc_136, List.forall_mem_cons.mpr ⟨mc_137, List.forall_mem_cons.mpr ⟨mc_138, List.forall_mem_cons.mpr ⟨mc_139, List.forall_mem_cons.mpr ⟨mc_140, List.forall_mem_cons.mpr ⟨mc_141, List.forall_mem_cons.mpr ⟨mc_142, List.forall_mem_cons.mpr ⟨mc_143, List.forall_mem_cons.mpr ⟨mc_144, List.forall_mem_cons.mpr ⟨mc_145, List.forall_mem_cons.mpr ⟨mc_146, List.forall_mem_cons.mpr ⟨mc_147, List.forall_mem_cons.mpr ⟨mc_148, List.forall_mem_cons.mpr ⟨mc_149, List.forall_mem_cons.mpr ⟨mc_150, List.forall_mem_cons.mpr ⟨mc_151, List.forall_mem_cons.mpr ⟨mc_152, List.forall_mem_cons.mpr ⟨mc_153, List.forall_mem_cons.mpr ⟨mc_154, List.forall_mem_cons.mpr ⟨mc_155, List.forall_mem_cons.mpr ⟨mc_156, List.forall_mem_cons.mpr ⟨mc_157, List.forall_mem_cons.mpr ⟨mc_158, List.forall_mem_cons.mpr ⟨mc_159, fun _ h => absurd h List.not_mem_nil⟩⟩⟩⟩⟩⟩⟩⟩⟩⟩⟩⟩⟩⟩⟩⟩⟩⟩⟩⟩⟩⟩⟩⟩⟩⟩⟩⟩⟩⟩⟩⟩⟩⟩⟩⟩⟩⟩⟩⟩
set_option maxRecDepth 10000 in
theorem mcl_4 : ∀ y ∈ ([160, 161, 162, 163, 164, 165, 166, 167, 168, 169, 170, 171, 172, 173, 174, 175, 176, 177, 178, 179, 180, 181, 182, 183, 184, 185, 186, 187, 188, 189, 190, 191, 192, 193, 194, 195, 196, 197, 198, 199, 200, 201, 202, 203, 204, 205, 206, 207, 208, 209, 210, 211, 212] : List Nat), mCw y := List.forall_mem_cons.mpr ⟨mc_160, List.forall_mem_cons.mpr ⟨mc_161, List.forall_mem_cons.mpr ⟨mc_162, List.forall_mem_cons.mpr ⟨mc_163, List.forall_mem_cons.mpr ⟨mc_164, List.forall_mem_cons.mpr ⟨mc_165, List.forall_mem_cons.mpr ⟨mc_166, List.forall_mem_cons.mpr ⟨mc_167, List.forall_mem_cons.mpr ⟨mc_168, List.forall_mem_cons.mpr ⟨mc_169, List.forall_mem_cons.mpr ⟨mc_170, List.forall_mem_cons.mpr ⟨mc_171, List.forall_mem_cons.mpr ⟨mc_172, List.forall_mem_cons.mpr ⟨mc_173, List.forall_mem_cons.mpr ⟨mc_174, List.forall_mem_cons.mpr ⟨mc_175, List.forall_mem_cons.mpr ⟨mc_176, List.forall_mem_cons.mpr ⟨mc_177, List.forall_mem_cons.mpr ⟨mc_178, List.forall_mem_cons.mpr ⟨mc_179, List.forall_mem_cons.mpr ⟨mc_180, List.forall_mem_cons.mpr ⟨mc_181, List.forall_mem_cons.mpr ⟨mc_182, List.forall_mem_cons.mpr ⟨mc_183, List.forall_mem_cons.mpr ⟨mc_184, List.forall_mem_cons.mpr ⟨mc_185, List.forall_mem_cons.mpr ⟨mc_186, List.forall_mem_cons.mpr ⟨mc_187, List.forall_mem_cons.mpr ⟨mc_188, List.forall_mem_cons.mpr ⟨mc_189, List.forall_mem_cons.mpr ⟨mc_190, List.forall_mem_cons.mpr ⟨mc_191, List.forall_mem_cons.mpr ⟨mc_192, List.forall_mem_cons.mpr ⟨mc_193, List.forall_mem_cons.mpr ⟨mc_194, List.forall_mem_cons.mpr ⟨mc_195, List.forall_mem_cons.mpr ⟨mc_196, List.forall_mem_cons.mpr ⟨mc_197, List.forall_mem_cons.mpr ⟨mc_198, List.forall_mem_cons.mpr ⟨mc_199, List.forall_mem_cons.mpr ⟨mc_200, List.forall_mem_cons.mpr ⟨mc_201, List.forall_mem_cons.mpr ⟨mc_202, List.forall_mem_cons.mpr ⟨mc_203, List.forall_mem_cons.mpr ⟨mc_204, List.forall_mem_cons.mpr ⟨mc_205, List.forall_mem_cons.mpr ⟨mc_206, List.forall_mem_cons.mpr ⟨mc_207, List.forall_mem_cons.mpr ⟨mc_208, List.forall_mem_cons.mpr ⟨mc_209, List.forall_mem_cons.mpr ⟨mc_210, List.forall_mem_cons.mpr ⟨mc_211, List.forall_mem_cons.mpr ⟨mc_212, fun _ h => absurd h List.not_mem_nil⟩⟩⟩⟩⟩⟩⟩⟩⟩⟩⟩⟩⟩⟩⟩⟩⟩⟩⟩⟩⟩⟩⟩⟩⟩⟩⟩⟩⟩⟩⟩⟩⟩⟩⟩⟩⟩⟩⟩⟩⟩⟩⟩⟩⟩⟩⟩⟩⟩⟩⟩⟩⟩
set_option maxRecDepth 10000 in
theorem m_code {y : Nat} (h : y < 213) : Cond.code (mNm y) (mCd y) (mL y) (mRt y) ∈ lw_tbl := by
  rcases (show y < 40 ∨ (40 ≤ y ∧ y < 80) ∨ (80 ≤ y ∧ y < 120) ∨ (120 ≤ y ∧ y < 160) ∨ (160 ≤ y ∧ y < 213) by omega) with q | q | q | q | q
  · refine mcl_0 y ?_
    rw [show ([0, 1, 2, 3, 4, 5, 6, 7, 8, 9, 10, 11, 12, 13, 14, 15, 16, 17, 18, 19, 20, 21, 22, 23, 24, 25, 26, 27, 28, 29, 30, 31, 32, 33, 34, 35, 36, 37, 38, 39] : List Nat) = List.range' 0 40 by decide +kernel]
    exact List.mem_range'_1.mpr ⟨by omega, by omega⟩
  · refine mcl_1 y ?_
    rw [show ([40, 41, 42, 43, 44, 45, 46, 47, 48, 49, 50, 51, 52, 53, 54, 55, 56, 57, 58, 59, 60, 61, 62, 63, 64, 65, 66, 67, 68, 69, 70, 71, 72, 73, 74, 75, 76, 77, 78, 79] : List Nat) = List.range' 40 40 by decide +kernel]
    exact List.mem_range'_1.mpr ⟨by omega, by omega⟩
  · refine mcl_2 y ?_
    rw [show ([80, 81, 82, 83, 84, 85, 86, 87, 88, 89, 90, 91, 92, 93, 94, 95, 96, 97, 98, 99, 100, 101, 102, 103, 104, 105, 106, 107, 108, 109, 110, 111, 112, 113, 114, 115, 116, 117, 118, 119] : List Nat) = List.range' 80 40 by decide +kernel]
    exact List.mem_range'_1.mpr ⟨by omega, by omega⟩
  · refine mcl_3 y ?_
    rw [show ([120, 121, 122, 123, 124, 125, 126, 127, 128, 129, 130, 131, 132, 133, 134, 135, 136, 137, 138, 139, 140, 141, 142, 143, 144, 145, 146, 147, 148, 149, 150, 151, 152, 153, 154, 155, 156, 157, 158, 159] : List Nat) = List.range' 120 40 by decide +kernel]
    exact List.mem_range'_1.mpr ⟨by omega, by omega⟩
  · refine mcl_4 y ?_
    rw [show ([160, 161, 162, 163, 164, 165, 166, 167, 168, 169, 170, 171, 172, 173, 174, 175, 176, 177, 178, 179, 180, 181, 182, 183, 184, 185, 186, 187, 188, 189, 190, 191, 192, 193, 194, 195, 196, 197, 198, 199, 200, 201, 202, 203, 204, 205, 206, 207, 208, 209, 210, 211, 212] : List Nat) = List.range' 160 53 by decide +kernel]
    exact List.mem_range'_1.mpr ⟨by omega, by omega⟩
theorem cst_ok : ∀ q ∈ cstT, Cond.constant (cN q.1) q.2.1 (Int32.ofInt q.2.2) ∈ lw_tbl := by decide +kernel
theorem cstL_ok : Cond.constantLong (cN 12) 18 4294967295 ∈ lw_tbl := by decide +kernel
/-! the picture -/
def cv (ad : Nat → Int → Nat) (v : AV) : Value := match v with
  | .inl a => .int (Int32.ofInt a)
  | .inr (.inl x) => .long x
  | .inr (.inr (.inl q)) => va_rf (q.map fun q => ad q.1 q.2)
  | .inr (.inr (.inr _)) => .null
/-- what a slot of an object holds -/
def slv (σ : aM) (t : Nat) (i : Int) (k : Nat) : AV := match sK (fC t) k with
  | 2 => aQ (cref t i k)
  | _ => aI (gI σ t i (k : Int))
def cellOf (ad : Nat → Int → Nat) (cy : Nat → ClassId) (σ : aM) (t : Nat) (i : Int) : va_E := match fT t with
  | 0 => .inl (cy 0, fL t, .inl (fun j => Int32.ofInt (gI σ t i (j : Int))))
  | 1 => .inl (cy 1, fL t, .inr (.inl (fun j => gL σ t i (j : Int))))
  | 2 => .inl (cy 2, fL t, .inl (fun j => Int32.ofInt (gI σ t i (j : Int))))
  | 3 => .inl (cy 3, fL t, .inr (.inr (.inr (.inr (fun j => (aref σ t i (j : Int)).map (fun q => ad q.1 q.2))))))
  | 4 => .inl (cy 4, fL t, .inr (.inr (.inr (.inr (fun j => (aref σ t i (j : Int)).map (fun q => ad q.1 q.2))))))
  | 5 => .inl (cy 4, fL t, .inr (.inr (.inr (.inr (fun j => (aref σ t i (j : Int)).map (fun q => ad q.1 q.2))))))
  | _ => .inr (fC t, (List.range (cS (fC t))).map (fun k => cv ad (slv σ t i k)))
def allTI : List (Nat × Nat) := (List.range 34).flatMap fun t => (List.range (fN t)).map fun i => (t, i)
def off (t : Nat) : Nat := ((List.range t).map fN).sum
theorem pos_all : (List.range 34).all (fun t => (List.range (fN t)).all (fun i => decide (allTI[off t + i]? = some (t, i)))) = true := by decide +kernel
theorem pos_inv0 : (List.range allTI.length).all (fun k => match allTI[k]? with | some q => decide (k = off q.1 + q.2 ∧ q.1 < 34 ∧ q.2 < fN q.1) | none => false) = true := by decide +kernel
theorem pos_at {t i : Nat} (ht : t < 34) (hi : i < fN t) : allTI[off t + i]? = some (t, i) := by
  have h := List.all_eq_true.mp pos_all t (List.mem_range.mpr ht)
  have h := List.all_eq_true.mp h i (List.mem_range.mpr hi)
  exact of_decide_eq_true h
theorem pos_inv {k : Nat} {q : Nat × Nat} (h : allTI[k]? = some q) : k = off q.1 + q.2 ∧ q.1 < 34 ∧ q.2 < fN q.1 := by
  have hk : k < allTI.length := (List.getElem?_eq_some_iff.mp h).1
  have h2 := List.all_eq_true.mp pos_inv0 k (List.mem_range.mpr hk)
  rw [h] at h2
  exact of_decide_eq_true h2
def WS (ad : Nat → Int → Nat) (cy : Nat → ClassId) (σ : aM) : va_W := allTI.map (fun q => (ad q.1 (q.2 : Int), cellOf ad cy σ q.1 (q.2 : Int)))
/-- a reference that is one -/
def okR (t : Nat) (i : Int) : Prop := t < 34 ∧ 0 ≤ i ∧ i < (fN t : Int)
def ps (t : Nat) (i : Int) : Nat := off t + i.toNat
theorem WS_at {ad : Nat → Int → Nat} {cy : Nat → ClassId} {σ : aM} {t : Nat} {i : Int} (h : okR t i) : (WS ad cy σ)[ps t i]? = some (ad t i, cellOf ad cy σ t i) := by
  obtain ⟨h1, h2, h3⟩ := h
  unfold WS ps
  rw [List.getElem?_map, pos_at h1 (by omega : i.toNat < fN t)]
  have e : ((i.toNat : Nat) : Int) = i := Int.toNat_of_nonneg h2
  simp only [Option.map_some, e]
theorem WS_set {ad : Nat → Int → Nat} {cy : Nat → ClassId} {σ σ' : aM} {t : Nat} {i : Int} (h : okR t i) (hx : ∀ (t' : Nat) (i' : Int), okR t' i' → ¬ (t' = t ∧ i' = i) → cellOf ad cy σ' t' i' = cellOf ad cy σ t' i') : (WS ad cy σ).set (ps t i) (ad t i, cellOf ad cy σ' t i) = WS ad cy σ' := by
  apply List.ext_getElem?
  intro k
  by_cases hk : k = ps t i
  · subst hk
    rw [WS_at h, List.getElem?_set_self]
    exact (List.getElem?_eq_some_iff.mp (WS_at (ad := ad) (cy := cy) (σ := σ) h)).1
  · rw [List.getElem?_set_ne (Ne.symm hk)]
    unfold WS
    rw [List.getElem?_map, List.getElem?_map]
    cases hq : allTI[k]? with
    | none => rfl
    | some q =>
      obtain ⟨e, e3, e4⟩ := pos_inv hq
      simp only [Option.map_some]
      rw [hx q.1 (q.2 : Int) ⟨e3, by omega, by omega⟩ ?_]
      rintro ⟨rfl, e2⟩
      apply hk
      rw [e]
      unfold ps
      rw [← e2]
      rfl
/-- the addresses are apart, and may be written -/
def Apart (A : Nat → Prop) (ad : Nat → Int → Nat) : Prop := (∀ t i t' i', okR t i → okR t' i' → ad t i = ad t' i' → t = t' ∧ i = i') ∧ ∀ t i, okR t i → A (ad t i)
theorem WS_D {A : Nat → Prop} {ad : Nat → Int → Nat} {cy : Nat → ClassId} {σ : aM} (h : Apart A ad) : va_D A (WS ad cy σ) := by
  have key : ∀ (k : Nat) (p : Nat × va_E), (WS ad cy σ)[k]? = some p → ∃ (t i : Nat), k = off t + i ∧ okR t (i : Int) ∧ p.1 = ad t (i : Int) := by
    intro k p hp
    unfold WS at hp
    rw [List.getElem?_map] at hp
    cases hq : allTI[k]? with
    | none => rw [hq] at hp; cases hp
    | some q =>
      rw [hq] at hp
      simp only [Option.map_some, Option.some.injEq] at hp
      obtain ⟨e1, e2, e3⟩ := pos_inv hq
      exact ⟨q.1, q.2, e1, ⟨e2, by omega, by omega⟩, by rw [← hp]⟩
  refine ⟨fun a b p q hp hq hpq => ?_, fun k q hq => ?_⟩
  · obtain ⟨t, i, e1, o1, f1⟩ := key a p hp
    obtain ⟨t', i', e2, o2, f2⟩ := key b q hq
    rw [f1, f2] at hpq
    obtain ⟨rfl, e3⟩ := h.1 _ _ _ _ o1 o2 hpq
    have : i = i' := by omega
    subst this
    omega
  · obtain ⟨t, i, -, o1, f1⟩ := key k q hq
    rw [f1]
    exact h.2 _ _ o1
/-- a cell depends on its own places alone -/
theorem fT5 {t : Nat} (h : fT t = 5) : t = 17 := by
  by_cases ht : t < 35
  · have k : (List.range 35).all (fun t => decide (fT t = 5 → t = 17)) = true := by decide +kernel
    exact of_decide_eq_true (List.all_eq_true.mp k t (List.mem_range.mpr ht)) h
  · unfold fT fam at h
    rw [getD_out] at h
    · cases h
    · exact Nat.le_trans (Nat.le_of_ble_eq_true rfl) (Nat.not_lt.mp ht)
theorem cellOf_eq {ad : Nat → Int → Nat} {cy : Nat → ClassId} {σ σ' : aM} {t : Nat} {i : Int} (h1 : ∀ j, gI σ' t i j = gI σ t i j) (h2 : ∀ j, gL σ' t i j = gL σ t i j) (h3 : t = 17 → ∀ j, gR σ' j = gR σ j) : cellOf ad cy σ' t i = cellOf ad cy σ t i := by
  have e1 : (fun j : Nat => Int32.ofInt (gI σ' t i (j : Int))) = fun j : Nat => Int32.ofInt (gI σ t i (j : Int)) := funext fun j => by rw [h1]
  have e2 : (fun j : Nat => gL σ' t i (j : Int)) = fun j : Nat => gL σ t i (j : Int) := funext fun j => by rw [h2]
  have e3 : (fT t = 3 ∨ fT t = 4 ∨ fT t = 5) → (fun j : Nat => (aref σ' t i (j : Int)).map (fun q => ad q.1 q.2)) = fun j : Nat => (aref σ t i (j : Int)).map (fun q => ad q.1 q.2) := by
    intro hf
    funext j
    unfold aref
    rcases hf with h | h | h
    · rw [h]; rfl
    · rw [h]; rfl
    · rw [h]
      show Option.map _ (gR σ' _) = Option.map _ (gR σ _)
      rw [h3 (fT5 h)]
  have e4 : ∀ k, slv σ' t i k = slv σ t i k := by
    intro k
    unfold slv
    rw [h1]
  unfold cellOf
  split
  · rw [e1]
  · rw [e2]
  · rw [e1]
  · rename_i h
    rw [e3 (Or.inl h)]
  · rename_i h
    rw [e3 (Or.inr (Or.inl h))]
  · rename_i h
    rw [e3 (Or.inr (Or.inr h))]
  · simp only [e4]
theorem cell_obj {ad : Nat → Int → Nat} {cy : Nat → ClassId} {σ : aM} {t : Nat} {i : Int} (h : fC t < 10) : cellOf ad cy σ t i = .inr (fC t, (List.range (cS (fC t))).map (fun k => cv ad (slv σ t i k))) := by
  have hT : fT t = 8 := by
    by_cases ht : t < 35
    · have k : (List.range 35).all (fun t => decide (fC t < 10 → fT t = 8)) = true := by decide +kernel
      exact of_decide_eq_true (List.all_eq_true.mp k t (List.mem_range.mpr ht)) h
    · unfold fC fam at h
      rw [getD_out] at h
      · exact absurd h (by decide)
      · exact Nat.le_trans (Nat.le_of_ble_eq_true rfl) (Nat.not_lt.mp ht)
  unfold cellOf
  rw [hT]
  rfl
theorem cell_int {ad : Nat → Int → Nat} {cy : Nat → ClassId} {σ : aM} {t : Nat} {i : Int} (h : fT t = 0) : cellOf ad cy σ t i = .inl (cy 0, fL t, .inl (fun j => Int32.ofInt (gI σ t i (j : Int)))) := by
  unfold cellOf
  rw [h]
  rfl
theorem cell_long {ad : Nat → Int → Nat} {cy : Nat → ClassId} {σ : aM} {t : Nat} {i : Int} (h : fT t = 1) : cellOf ad cy σ t i = .inl (cy 1, fL t, .inr (.inl (fun j => gL σ t i (j : Int)))) := by
  unfold cellOf
  rw [h]
  rfl
theorem cell_bool {ad : Nat → Int → Nat} {cy : Nat → ClassId} {σ : aM} {t : Nat} {i : Int} (h : fT t = 2) : cellOf ad cy σ t i = .inl (cy 2, fL t, .inl (fun j => Int32.ofInt (gI σ t i (j : Int)))) := by
  unfold cellOf
  rw [h]
  rfl
theorem cell_ref {ad : Nat → Int → Nat} {cy : Nat → ClassId} {σ : aM} {t : Nat} {i : Int} (h : 3 ≤ fT t ∧ fT t ≤ 5) : cellOf ad cy σ t i = .inl (cy (if fT t = 3 then 3 else 4), fL t, .inr (.inr (.inr (.inr (fun j => (aref σ t i (j : Int)).map (fun q => ad q.1 q.2)))))) := by
  unfold cellOf
  rcases (show fT t = 3 ∨ fT t = 4 ∨ fT t = 5 by omega) with h | h | h <;> rw [h] <;> rfl
