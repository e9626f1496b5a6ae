/-! THE SMALL MACHINE: values, memory by families of cells, one step of an instruction, runs with fuel, and what a run comes to -/
abbrev AV : Type := Int ⊕ (Int64 ⊕ (Option (Nat × Int) ⊕ Unit))
abbrev aI (a : Int) : AV := .inl a
abbrev aJ (x : Int64) : AV := .inr (.inl x)
abbrev aQ (q : Option (Nat × Int)) : AV := .inr (.inr (.inl q))
abbrev aR (t : Nat) (i : Int) : AV := .inr (.inr (.inl (some (t, i))))
abbrev aN : AV := .inr (.inr (.inl none))
abbrev aU : AV := .inr (.inr (.inr ()))
/-- wrap-around -/
def wr (a : Int) : Int := (Int32.ofInt a).toInt
/-- ints by family, cell, place; longs; the references of the one row that changes -/
abbrev aM : Type := (Nat → Int → Int → Int) × ((Nat → Int → Int → Int64) × (Int → Option (Nat × Int)))
def gI (σ : aM) (t : Nat) (i j : Int) : Int := σ.1 t i j
def gL (σ : aM) (t : Nat) (i j : Int) : Int64 := σ.2.1 t i j
def gR (σ : aM) (j : Int) : Option (Nat × Int) := σ.2.2 j
def uI (σ : aM) (t : Nat) (i j v : Int) : aM := (fun t' i' j' => if t' = t ∧ i' = i ∧ j' = j then v else gI σ t' i' j', σ.2)
def uL (σ : aM) (t : Nat) (i j : Int) (v : Int64) : aM := (σ.1, fun t' i' j' => if t' = t ∧ i' = i ∧ j' = j then v else gL σ t' i' j', σ.2.2)
def uR (σ : aM) (j : Int) (q : Option (Nat × Int)) : aM := (σ.1, σ.2.1, fun j' => if j' = j then q else gR σ j')
/-- n ints from one row, from a on, to another's places from b on (as they were ahead); longs likewise -/
def kI (σ : aM) (t : Nat) (i a : Int) (t2 : Nat) (i2 b n : Int) : aM := (fun t' i' j' => if t' = t2 ∧ i' = i2 ∧ b ≤ j' ∧ j' < b + n then gI σ t i (j' - b + a) else gI σ t' i' j', σ.2)
def kL (σ : aM) (t : Nat) (i a : Int) (t2 : Nat) (i2 b n : Int) : aM := (σ.1, fun t' i' j' => if t' = t2 ∧ i' = i2 ∧ b ≤ j' ∧ j' < b + n then gL σ t i (j' - b + a) else gL σ t' i' j', σ.2.2)
/-! families: class (99: a row), kind of row (0 int, 1 long, 2 boolean, 3 shelves, 4 orders, 5 the line), length, how many -/
def fams : List (Nat × Nat × Nat × Nat) := [(8, 8, 0, 1), (99, 3, 8, 1), (5, 8, 0, 8), (99, 1, 160, 8), (99, 0, 8, 1), (2, 8, 0, 1), (1, 8, 0, 2), (99, 4, 60, 2), (3, 8, 0, 121), (7, 8, 0, 2), (99, 0, 800, 2), (99, 0, 8, 2), (99, 0, 8, 2), (0, 8, 0, 1), (99, 0, 1000, 1), (99, 0, 1000, 1), (4, 8, 0, 1), (99, 5, 60, 1), (99, 0, 60, 1), (6, 8, 0, 1), (99, 0, 27, 1), (99, 0, 27, 1), (99, 0, 27, 1), (99, 0, 27, 1), (99, 0, 27, 1), (9, 8, 0, 1), (99, 0, 1423, 1), (99, 0, 1423, 1), (99, 0, 8, 1), (99, 0, 8, 1), (99, 0, 8, 1), (99, 1, 1280, 1), (99, 1, 160, 1), (99, 2, 60, 1), (99, 0, 0, 1)]
def fam (t : Nat) : Nat × Nat × Nat × Nat := fams.getD t (98, 9, 0, 0)
def fC (t : Nat) : Nat := (fam t).1
def fT (t : Nat) : Nat := (fam t).2.1
def fL (t : Nat) : Nat := (fam t).2.2.1
def fN (t : Nat) : Nat := (fam t).2.2.2
/-- the script's length stands at its place -1 -/
def aLen (σ : aM) (t : Nat) : Int := if t = 34 then gI σ 34 0 (-1) else (fL t : Int)
/-- a class's slots: 0 int, 1 boolean, 2 a reference that stays, 3 an int that stays -/
def kinds : List (List Nat) := [[2, 2, 0, 0], [2, 2, 0, 0, 0, 0, 0], [2, 2], [3, 0, 0, 0, 0, 0, 0, 0, 0, 0, 0], [2, 2, 0], [2, 0, 0, 0], [2, 2, 2, 2, 2, 0, 0, 0], [2, 2, 2, 0, 0], [2, 2, 2, 2, 2, 2, 2, 2, 1, 0], [0, 2, 2, 1, 2, 2, 2, 2, 2, 0, 0, 0, 0, 1, 1, 0, 0, 1, 0, 0, 0, 0, 2]]
def sK (c k : Nat) : Nat := (kinds.getD c []).getD k 9
/-- where such a reference leads: family, cell (0: the number; 1: the owner's own) -/
def crT : List (List (Nat × Nat × Nat)) := [[(1, 0, 0), (4, 0, 0), (5, 0, 0), (6, 0, 0), (13, 0, 0), (16, 0, 0), (19, 0, 0), (6, 1, 0)], [], [(3, 0, 1)], [], [], [(6, 0, 0), (8, 120, 0)], [(7, 0, 1), (9, 0, 1)], [], [], [(10, 0, 1), (11, 0, 1), (12, 0, 1)], [], [], [], [(14, 0, 0), (15, 0, 0)], [], [], [(17, 0, 0), (18, 0, 0)], [], [], [(20, 0, 0), (21, 0, 0), (22, 0, 0), (23, 0, 0), (24, 0, 0)], [], [], [], [], [], [(0, 0, 0), (26, 0, 0), (27, 0, 0), (0, 0, 0), (28, 0, 0), (29, 0, 0), (30, 0, 0), (31, 0, 0), (32, 0, 0), (0, 0, 0), (0, 0, 0), (0, 0, 0), (0, 0, 0), (0, 0, 0), (0, 0, 0), (0, 0, 0), (0, 0, 0), (0, 0, 0), (0, 0, 0), (0, 0, 0), (0, 0, 0), (0, 0, 0), (33, 0, 0)], [], [], [], [], [], [], [], [], []]
def cref (t : Nat) (i : Int) (k : Nat) : Option (Nat × Int) := match (crT.getD t []).getD k (0, 0, 0) with
  | (t', c, 0) => some (t', (c : Int))
  | (t', _, _ + 1) => some (t', i)
/-- what a row of references holds -/
def aref (σ : aM) (t : Nat) (i j : Int) : Option (Nat × Int) := match fT t with
  | 3 => some (2, j)
  | 4 => some (8, 60 * i + j)
  | _ => gR σ j
/-! methods: class number, name, descriptor, code, locals, type, frames below, words below -/
def clsN : List String := ["UncrossedBook$Auction", "UncrossedBook$Book", "UncrossedBook$Desk", "UncrossedBook$Order", "UncrossedBook$Ranking", "UncrossedBook$Shelf", "UncrossedBook$TextReader", "UncrossedBook$TradeLog", "UncrossedBook", "UncrossedBookModel", "java/util/Arrays", "java/lang/Math", "UncrossedBookLaw"]
def cN (c : Nat) : String := clsN.getD c ""
abbrev aMt : Type := Nat × String × String × ByteArray × Nat × Option FieldType × Nat × Nat
def meths : List aMt := [
  (0, "<init>", "()V", prog_2_method_1_code, 1, none, 0, 0),
  (0, "find", "(LUncrossedBook$Book;)V", prog_2_method_2_code, 10, none, 2, 48),
  (0, "gather", "(LUncrossedBook$Book;)I", prog_2_method_3_code, 5, (some .int), 1, 23),
  (1, "<init>", "()V", prog_3_method_1_code, 2, none, 0, 0),
  (1, "takeOver", "(LUncrossedBook$Book;)V", prog_3_method_2_code, 3, none, 2, 69),
  (1, "orderAt", "(I)LUncrossedBook$Order;", prog_3_method_3_code, 2, (some (.object "UncrossedBook$Order")), 0, 0),
  (1, "giveTime", "(LUncrossedBook$Order;)V", prog_3_method_4_code, 2, none, 0, 0),
  (1, "rest", "(LUncrossedBook$Order;)V", prog_3_method_5_code, 2, none, 2, 68),
  (1, "firstOn", "(I)LUncrossedBook$Order;", prog_3_method_6_code, 5, (some (.object "UncrossedBook$Order")), 1, 23),
  (1, "bestPrice", "(I)I", prog_3_method_7_code, 3, (some .int), 2, 47),
  (1, "priceOf", "(LUncrossedBook$Order;)I", prog_3_method_8_code, 2, (some .int), 3, 69),
  (1, "countIn", "(I)I", prog_3_method_9_code, 4, (some .int), 0, 0),
  (1, "drawBelow", "(I)I", prog_3_method_10_code, 2, (some .int), 0, 0),
  (2, "<init>", "()V", prog_4_method_1_code, 1, none, 0, 0),
  (2, "bring", "(IIIIIII)I", prog_4_method_2_code, 9, (some .int), 6, 160),
  (2, "pass", "(III)I", prog_4_method_3_code, 4, (some .int), 6, 160),
  (2, "alter", "(LUncrossedBook$Order;II)V", prog_4_method_4_code, 4, none, 6, 160),
  (2, "open", "(II)V", prog_4_method_5_code, 8, none, 6, 160),
  (2, "enter", "(LUncrossedBook$Order;)V", prog_4_method_6_code, 2, none, 5, 138),
  (2, "tryAtOnce", "(LUncrossedBook$Order;I)V", prog_4_method_7_code, 3, none, 5, 138),
  (2, "noLimit", "(I)I", prog_4_method_8_code, 1, (some .int), 0, 0),
  (2, "endUnrested", "(LUncrossedBook$Order;)V", prog_4_method_9_code, 1, none, 0, 0),
  (2, "thereIsEnoughFor", "(LUncrossedBook$Order;)Z", prog_4_method_10_code, 8, (some .boolean), 3, 69),
  (2, "isWithin", "(LUncrossedBook$Order;II)Z", prog_4_method_11_code, 3, (some .boolean), 0, 0),
  (2, "goIn", "(LUncrossedBook$Order;I)V", prog_4_method_12_code, 6, none, 4, 113),
  (2, "meet", "(LUncrossedBook$Order;LUncrossedBook$Order;)V", prog_4_method_13_code, 4, none, 3, 90),
  (2, "comeRound", "(LUncrossedBook$Order;I)V", prog_4_method_14_code, 3, none, 2, 68),
  (2, "tradeAway", "(LUncrossedBook$Order;LUncrossedBook$Order;II)V", prog_4_method_15_code, 5, none, 1, 25),
  (2, "meetOwn", "(LUncrossedBook$Order;LUncrossedBook$Order;)V", prog_4_method_16_code, 4, none, 3, 90),
  (2, "lessenBy", "(LUncrossedBook$Order;I)V", prog_4_method_17_code, 2, none, 2, 69),
  (2, "wakeStops", "()V", prog_4_method_18_code, 3, none, 5, 138),
  (2, "firstReachedStop", "()LUncrossedBook$Order;", prog_4_method_19_code, 3, (some (.object "UncrossedBook$Order")), 1, 22),
  (2, "isReached", "(LUncrossedBook$Order;)Z", prog_4_method_20_code, 3, (some .boolean), 0, 0),
  (3, "<init>", "(I)V", prog_5_method_1_code, 2, none, 0, 0),
  (3, "begin", "(IIIIII)V", prog_5_method_2_code, 7, none, 0, 0),
  (3, "takeOver", "(LUncrossedBook$Order;)V", prog_5_method_3_code, 2, none, 0, 0),
  (3, "isUnder", "(I)Z", prog_5_method_4_code, 2, (some .boolean), 0, 0),
  (3, "canBeAmended", "()Z", prog_5_method_5_code, 1, (some .boolean), 0, 0),
  (3, "restsOn", "(I)Z", prog_5_method_6_code, 2, (some .boolean), 0, 0),
  (3, "visibleNow", "()I", prog_5_method_7_code, 1, (some .int), 0, 0),
  (3, "priceBy", "(I)I", prog_5_method_8_code, 3, (some .int), 1, 20),
  (3, "isAheadOf", "(LUncrossedBook$Order;II)Z", prog_5_method_9_code, 4, (some .boolean), 0, 0),
  (3, "giveTraded", "(I)V", prog_5_method_10_code, 2, none, 0, 0),
  (3, "lessenTo", "(I)V", prog_5_method_11_code, 2, none, 1, 48),
  (3, "showAnew", "()V", prog_5_method_12_code, 1, none, 1, 48),
  (4, "<init>", "()V", prog_6_method_1_code, 1, none, 0, 0),
  (4, "lineUp", "(LUncrossedBook$Book;I)V", prog_6_method_2_code, 7, none, 3, 69),
  (4, "placeIn", "(LUncrossedBook$Order;I)V", prog_6_method_3_code, 4, none, 1, 23),
  (4, "orderAt", "(I)LUncrossedBook$Order;", prog_6_method_4_code, 2, (some (.object "UncrossedBook$Order")), 0, 0),
  (4, "priceOfLevel", "(I)I", prog_6_method_5_code, 5, (some .int), 0, 0),
  (4, "visibleAt", "(I)I", prog_6_method_6_code, 4, (some .int), 1, 20),
  (4, "visibleAhead", "(LUncrossedBook$Order;)I", prog_6_method_7_code, 4, (some .int), 1, 20),
  (4, "costOf", "(I)I", prog_6_method_8_code, 6, (some .int), 1, 48),
  (5, "<init>", "()V", prog_7_method_1_code, 1, none, 0, 0),
  (5, "holdNothing", "()V", prog_7_method_2_code, 1, none, 0, 0),
  (5, "holdOrder", "(I)V", prog_7_method_3_code, 2, none, 1, 20),
  (5, "holdRow", "(II)V", prog_7_method_4_code, 3, none, 1, 24),
  (5, "holdsRow", "()Z", prog_7_method_5_code, 1, (some .boolean), 0, 0),
  (5, "holdsOrder", "()Z", prog_7_method_6_code, 1, (some .boolean), 0, 0),
  (5, "hasElement", "(I)Z", prog_7_method_7_code, 2, (some .boolean), 0, 0),
  (5, "hasSpan", "(II)Z", prog_7_method_8_code, 3, (some .boolean), 0, 0),
  (5, "put", "(IJ)V", prog_7_method_9_code, 4, none, 1, 21),
  (5, "intAt", "(I)I", prog_7_method_10_code, 2, (some .int), 1, 21),
  (6, "<init>", "()V", prog_8_method_1_code, 1, none, 0, 0),
  (6, "faultIn", "(LUncrossedBook$Shelf;)I", prog_8_method_2_code, 3, (some .int), 6, 137),
  (6, "takeItem", "(LUncrossedBook$Shelf;)V", prog_8_method_3_code, 7, none, 5, 111),
  (6, "signAt", "(LUncrossedBook$Shelf;)I", prog_8_method_4_code, 2, (some .int), 2, 42),
  (6, "takeSign", "(LUncrossedBook$Shelf;I)V", prog_8_method_5_code, 3, none, 4, 87),
  (6, "takeBetween", "(LUncrossedBook$Shelf;II)I", prog_8_method_6_code, 5, (some .int), 3, 63),
  (6, "takeNumber", "(LUncrossedBook$Shelf;)I", prog_8_method_7_code, 5, (some .int), 4, 87),
  (6, "isDigitNext", "(LUncrossedBook$Shelf;)Z", prog_8_method_8_code, 3, (some .boolean), 3, 63),
  (7, "<init>", "()V", prog_9_method_1_code, 1, none, 0, 0),
  (7, "takeOver", "(LUncrossedBook$TradeLog;)V", prog_9_method_2_code, 2, none, 1, 48),
  (7, "note", "(LUncrossedBook$Order;LUncrossedBook$Order;II)V", prog_9_method_3_code, 6, none, 0, 0),
  (7, "keeps", "(I)Z", prog_9_method_4_code, 2, (some .boolean), 0, 0),
  (7, "tell", "(II)I", prog_9_method_5_code, 3, (some .int), 1, 21),
  (7, "isToldBy", "(LUncrossedBook$Shelf;I)Z", prog_9_method_6_code, 4, (some .boolean), 2, 43),
  (8, "<init>", "()V", prog_1_method_1_code, 2, none, 0, 0),
  (8, "row", "(III)I", prog_1_method_2_code, 4, (some .int), 2, 46),
  (8, "set", "(IIJ)I", prog_1_method_3_code, 6, (some .int), 2, 44),
  (8, "copy", "(IIIII)I", prog_1_method_4_code, 8, (some .int), 1, 48),
  (8, "element", "(II)J", prog_1_method_5_code, 3, (some .long), 1, 21),
  (8, "show", "(II)I", prog_1_method_6_code, 3, (some .int), 2, 41),
  (8, "holds", "(I)I", prog_1_method_7_code, 3, (some .int), 1, 20),
  (8, "says", "(II)I", prog_1_method_8_code, 4, (some .int), 4, 90),
  (8, "limit", "(IIIII)I", prog_1_method_9_code, 8, (some .int), 7, 188),
  (8, "hidden", "(IIIII)I", prog_1_method_10_code, 8, (some .int), 7, 188),
  (8, "pegged", "(IIII)I", prog_1_method_11_code, 7, (some .int), 7, 188),
  (8, "halt", "(IIII)I", prog_1_method_12_code, 7, (some .int), 7, 188),
  (8, "market", "(III)I", prog_1_method_13_code, 4, (some .int), 7, 183),
  (8, "read", "(I)I", prog_1_method_14_code, 5, (some .int), 7, 188),
  (8, "fault", "()I", prog_1_method_15_code, 1, (some .int), 0, 0),
  (8, "cancel", "(I)I", prog_1_method_16_code, 3, (some .int), 1, 21),
  (8, "amend", "(III)I", prog_1_method_17_code, 6, (some .int), 7, 183),
  (8, "rule", "(I)I", prog_1_method_18_code, 3, (some .int), 1, 21),
  (8, "uncross", "()I", prog_1_method_19_code, 1, (some .int), 7, 187),
  (8, "close", "()I", prog_1_method_20_code, 1, (some .int), 1, 23),
  (8, "crossing", "(I)I", prog_1_method_21_code, 2, (some .int), 3, 77),
  (8, "orderOf", "(II)I", prog_1_method_22_code, 4, (some .int), 4, 90),
  (8, "rank", "(II)I", prog_1_method_23_code, 4, (some .int), 4, 95),
  (8, "depth", "(III)I", prog_1_method_24_code, 5, (some .int), 4, 95),
  (8, "ahead", "(I)I", prog_1_method_25_code, 3, (some .int), 4, 95),
  (8, "sweep", "(II)I", prog_1_method_26_code, 3, (some .int), 4, 95),
  (8, "trades", "()I", prog_1_method_27_code, 1, (some .int), 0, 0),
  (8, "trade", "(II)I", prog_1_method_28_code, 3, (some .int), 2, 43),
  (8, "position", "(I)I", prog_1_method_29_code, 2, (some .int), 1, 21),
  (8, "cash", "(I)I", prog_1_method_30_code, 2, (some .int), 1, 21),
  (8, "judge", "(II)I", prog_1_method_31_code, 5, (some .int), 3, 66),
  (8, "draws", "(I)I", prog_1_method_32_code, 8, (some .int), 7, 188),
  (8, "seed", "(I)I", prog_1_method_33_code, 3, (some .int), 0, 0),
  (8, "image", "()I", prog_1_method_34_code, 1, (some .int), 3, 91),
  (8, "restore", "()I", prog_1_method_35_code, 2, (some .int), 3, 91),
  (8, "status", "(I)I", prog_1_method_36_code, 2, (some .int), 1, 23),
  (8, "refuse", "(I)I", prog_1_method_37_code, 2, (some .int), 0, 0),
  (8, "refuseApart", "(I)I", prog_1_method_38_code, 2, (some .int), 1, 21),
  (8, "reasonAgainstRow", "(I)I", prog_1_method_39_code, 2, (some .int), 1, 20),
  (8, "reasonAgainstComer", "(IIZ)I", prog_1_method_40_code, 4, (some .int), 1, 20),
  (8, "isShelf", "(I)Z", prog_1_method_41_code, 1, (some .boolean), 0, 0),
  (8, "isOwner", "(I)Z", prog_1_method_42_code, 1, (some .boolean), 0, 0),
  (8, "isSide", "(I)Z", prog_1_method_43_code, 1, (some .boolean), 0, 0),
  (8, "isMeasure", "(I)Z", prog_1_method_44_code, 1, (some .boolean), 0, 0),
  (8, "otherSide", "(I)I", prog_1_method_45_code, 1, (some .int), 0, 0),
  (9, "<init>", "()V", prog_11_method_1_code, 2, none, 0, 0),
  (9, "in", "(III)Z", prog_11_method_3_code, 3, (some .boolean), 0, 0),
  (9, "refused", "(I)I", prog_11_method_4_code, 2, (some .int), 0, 0),
  (9, "refusedBelow", "(I)I", prog_11_method_5_code, 2, (some .int), 0, 0),
  (9, "isOrder", "(I)Z", prog_11_method_6_code, 2, (some .boolean), 1, 22),
  (9, "isSide", "(I)Z", prog_11_method_7_code, 1, (some .boolean), 1, 22),
  (9, "isOwner", "(I)Z", prog_11_method_8_code, 1, (some .boolean), 1, 22),
  (9, "is999", "(I)Z", prog_11_method_9_code, 1, (some .boolean), 1, 22),
  (9, "isShelf", "(I)Z", prog_11_method_10_code, 1, (some .boolean), 1, 22),
  (9, "row", "(III)I", prog_11_method_11_code, 5, (some .int), 2, 42),
  (9, "wanted", "(I)I", prog_11_method_12_code, 2, (some .int), 2, 42),
  (9, "set", "(IIJ)I", prog_11_method_13_code, 6, (some .int), 3, 63),
  (9, "copy", "(IIIII)I", prog_11_method_14_code, 8, (some .int), 2, 42),
  (9, "isRow", "(I)Z", prog_11_method_15_code, 2, (some .boolean), 2, 42),
  (9, "element", "(II)J", prog_11_method_16_code, 3, (some .long), 3, 63),
  (9, "show", "(II)I", prog_11_method_17_code, 3, (some .int), 2, 43),
  (9, "holds", "(I)I", prog_11_method_18_code, 2, (some .int), 2, 42),
  (9, "isLimit", "(I)Z", prog_11_method_19_code, 2, (some .boolean), 0, 0),
  (9, "doesRest", "(I)Z", prog_11_method_20_code, 2, (some .boolean), 0, 0),
  (9, "bestPrice", "(I)I", prog_11_method_21_code, 6, (some .int), 1, 21),
  (9, "priceOf", "(I)I", prog_11_method_22_code, 4, (some .int), 2, 46),
  (9, "seenOf", "(I)I", prog_11_method_23_code, 2, (some .int), 1, 21),
  (9, "isAheadOf", "(II)Z", prog_11_method_24_code, 5, (some .boolean), 3, 69),
  (9, "isRanked", "(II)Z", prog_11_method_25_code, 3, (some .boolean), 3, 69),
  (9, "aheadMany", "(I)I", prog_11_method_26_code, 4, (some .int), 4, 93),
  (9, "firstOf", "(IZ)I", prog_11_method_27_code, 6, (some .int), 4, 93),
  (9, "isWithin", "(III)Z", prog_11_method_28_code, 3, (some .boolean), 0, 0),
  (9, "pays", "(III)V", prog_11_method_29_code, 4, none, 0, 0),
  (9, "notes", "(IIII)V", prog_11_method_30_code, 6, none, 0, 0),
  (9, "fresh", "(I)V", prog_11_method_31_code, 2, none, 0, 0),
  (9, "nextTime", "()I", prog_11_method_32_code, 1, (some .int), 0, 0),
  (9, "rests", "(I)V", prog_11_method_33_code, 2, none, 1, 21),
  (9, "loses", "(II)V", prog_11_method_34_code, 3, none, 1, 21),
  (9, "meets", "(I)V", prog_11_method_35_code, 3, none, 0, 0),
  (9, "goesIn", "(IIIII)V", prog_11_method_36_code, 10, none, 5, 118),
  (9, "orderGoesIn", "(IIZ)V", prog_11_method_37_code, 4, none, 6, 147),
  (9, "isReached", "(I)Z", prog_11_method_38_code, 3, (some .boolean), 0, 0),
  (9, "stops", "()V", prog_11_method_39_code, 2, none, 7, 170),
  (9, "comes", "(IIIIII)I", prog_11_method_40_code, 8, (some .int), 0, 0),
  (9, "isEnough", "(I)Z", prog_11_method_41_code, 5, (some .boolean), 4, 91),
  (9, "limitComes", "(II)V", prog_11_method_42_code, 3, none, 8, 191),
  (9, "wantedOrder", "(IIZ)I", prog_11_method_43_code, 4, (some .int), 2, 42),
  (9, "limit", "(IIIII)I", prog_11_method_44_code, 8, (some .int), 9, 213),
  (9, "hidden", "(IIIII)I", prog_11_method_45_code, 8, (some .int), 9, 213),
  (9, "pegged", "(IIII)I", prog_11_method_46_code, 7, (some .int), 8, 191),
  (9, "halt", "(IIII)I", prog_11_method_47_code, 7, (some .int), 8, 191),
  (9, "market", "(III)I", prog_11_method_48_code, 5, (some .int), 8, 191),
  (9, "here", "()I", prog_11_method_49_code, 1, (some .int), 0, 0),
  (9, "fails", "(I)V", prog_11_method_50_code, 2, none, 0, 0),
  (9, "one", "(II)I", prog_11_method_51_code, 3, (some .int), 1, 22),
  (9, "isDigit", "()Z", prog_11_method_52_code, 1, (some .boolean), 1, 22),
  (9, "number", "()I", prog_11_method_53_code, 4, (some .int), 2, 44),
  (9, "item", "(Z)V", prog_11_method_54_code, 7, none, 9, 213),
  (9, "goesThrough", "(Z)I", prog_11_method_55_code, 3, (some .int), 10, 239),
  (9, "read", "(I)I", prog_11_method_56_code, 4, (some .int), 11, 261),
  (9, "fault", "()I", prog_11_method_57_code, 1, (some .int), 0, 0),
  (9, "isThere", "(I)Z", prog_11_method_58_code, 2, (some .boolean), 0, 0),
  (9, "cancel", "(I)I", prog_11_method_59_code, 2, (some .int), 2, 43),
  (9, "amend", "(III)I", prog_11_method_60_code, 6, (some .int), 9, 213),
  (9, "rule", "(I)I", prog_11_method_61_code, 3, (some .int), 1, 22),
  (9, "volumeAt", "(I)I", prog_11_method_62_code, 4, (some .int), 1, 21),
  (9, "far", "(II)I", prog_11_method_63_code, 2, (some .int), 0, 0),
  (9, "crossPrice", "()I", prog_11_method_64_code, 8, (some .int), 2, 44),
  (9, "crosses", "(II)V", prog_11_method_65_code, 7, none, 5, 118),
  (9, "crossed", "(II)V", prog_11_method_66_code, 3, none, 0, 0),
  (9, "uncross", "()I", prog_11_method_67_code, 3, (some .int), 8, 191),
  (9, "manyIn", "(I)I", prog_11_method_68_code, 4, (some .int), 0, 0),
  (9, "close", "()I", prog_11_method_69_code, 1, (some .int), 1, 23),
  (9, "crossing", "(I)I", prog_11_method_70_code, 3, (some .int), 3, 71),
  (9, "pricedAs", "(I)I", prog_11_method_71_code, 2, (some .int), 3, 69),
  (9, "says", "(II)I", prog_11_method_72_code, 6, (some .int), 4, 90),
  (9, "orderOf", "(II)I", prog_11_method_73_code, 3, (some .int), 4, 90),
  (9, "ranked", "(II)I", prog_11_method_74_code, 5, (some .int), 5, 116),
  (9, "rank", "(II)I", prog_11_method_75_code, 3, (some .int), 6, 140),
  (9, "depth", "(III)I", prog_11_method_76_code, 9, (some .int), 6, 140),
  (9, "ahead", "(I)I", prog_11_method_77_code, 4, (some .int), 4, 93),
  (9, "sweep", "(II)I", prog_11_method_78_code, 8, (some .int), 6, 140),
  (9, "trades", "()I", prog_11_method_79_code, 1, (some .int), 0, 0),
  (9, "kept", "()I", prog_11_method_80_code, 1, (some .int), 0, 0),
  (9, "trade", "(II)I", prog_11_method_81_code, 3, (some .int), 1, 22),
  (9, "position", "(I)I", prog_11_method_82_code, 2, (some .int), 2, 42),
  (9, "cash", "(I)I", prog_11_method_83_code, 2, (some .int), 2, 42),
  (9, "judge", "(II)I", prog_11_method_84_code, 7, (some .int), 3, 63),
  (9, "drawn", "(I)I", prog_11_method_85_code, 2, (some .int), 0, 0),
  (9, "draws", "(I)I", prog_11_method_86_code, 8, (some .int), 9, 213),
  (9, "seed", "(I)I", prog_11_method_87_code, 3, (some .int), 0, 0),
  (9, "image", "()I", prog_11_method_88_code, 2, (some .int), 0, 0),
  (9, "restore", "()I", prog_11_method_89_code, 2, (some .int), 2, 43),
  (9, "status", "(I)I", prog_11_method_90_code, 2, (some .int), 1, 23),
  (10, "fill", "([JJ)V", prog_14_method_101_code, 5, none, 0, 0),
  (10, "fill", "([II)V", prog_14_method_103_code, 4, none, 0, 0),
  (12, "law", "([I)Z", code, 4, (some .boolean), 12, 284)]
def mE (y : Nat) : aMt := meths.getD y (99, "", "", ⟨#[]⟩, 0, none, 0, 0)
def mC (y : Nat) : Nat := (mE y).1
def mNm (y : Nat) : MethodName := ⟨cN (mE y).1, (mE y).2.1, (mE y).2.2.1⟩
def mCd (y : Nat) : ByteArray := (mE y).2.2.2.1
def mL (y : Nat) : Nat := (mE y).2.2.2.2.1
def mRt (y : Nat) : Option FieldType := (mE y).2.2.2.2.2.1
def mF (y : Nat) : Nat := (mE y).2.2.2.2.2.2.1
def mW (y : Nat) : Nat := (mE y).2.2.2.2.2.2.2
/-- calls by class and pool number: kind (0 virtual, 1 static, 2 static of a nest mate, 3 System.arraycopy, 4 Math.min, 5 Math.abs), how many arguments, the method; the place of the link's word -/
def siteT : List (List (Nat × (Nat × Nat × Nat) × Nat)) := [[(36, (0, 1, 2), 3158), (40, (4, 2, 0), 3166), (46, (5, 1, 0), 3167), (50, (1, 2, 212), 3162), (72, (2, 1, 120), 3165)], [(43, (0, 1, 35), 4064), (47, (0, 1, 72), 4068), (56, (0, 0, 44), 2219), (59, (0, 1, 6), 2226), (62, (0, 1, 38), 2177), (72, (0, 3, 41), 2181), (76, (0, 1, 8), 2173), (83, (0, 1, 9), 2169), (87, (0, 1, 40), 2185)], [(35, (0, 6, 34), 2211), (42, (0, 1, 7), 2215), (46, (0, 1, 18), 2230), (49, (0, 2, 19), 3040), (53, (0, 0, 30), 3054), (59, (1, 1, 20), 3066), (63, (0, 2, 24), 2234), (78, (0, 1, 43), 3013), (81, (0, 1, 8), 3001), (85, (4, 2, 0), 3009), (91, (0, 4, 27), 3022), (95, (0, 0, 44), 3038), (101, (0, 1, 22), 3044), (105, (1, 1, 21), 3051), (111, (2, 1, 121), 2238), (114, (0, 1, 9), 3048), (123, (0, 1, 38), 3049), (127, (0, 1, 40), 3050), (130, (1, 3, 23), 3002), (134, (0, 2, 28), 3005), (138, (0, 2, 25), 3017), (141, (0, 0, 39), 3021), (145, (0, 2, 26), 3034), (151, (0, 1, 6), 3039), (158, (0, 4, 73), 3026), (163, (0, 1, 42), 3030), (166, (1, 2, 29), 3010), (169, (0, 0, 31), 3058), (173, (0, 1, 32), 3062)], [(45, (2, 1, 120), 2189), (49, (4, 2, 0), 2223)], [(25, (0, 1, 9), 3202), (37, (0, 1, 40), 3203), (40, (0, 1, 38), 3204), (44, (0, 2, 47), 3205), (48, (0, 3, 41), 3209), (52, (0, 0, 39), 3226), (59, (4, 2, 0), 4005)], [(25, (0, 0, 54), 2089), (28, (1, 2, 211), 2093), (34, (0, 1, 59), 2120)], [(37, (0, 1, 65), 3097), (46, (0, 2, 67), 3113), (50, (0, 3, 68), 3101), (54, (0, 1, 66), 3105), (58, (0, 1, 69), 3117), (61, (0, 1, 62), 3109), (65, (0, 1, 70), 3121), (69, (2, 1, 120), 3125)], [(28, (3, 5, 0), 4072), (42, (0, 1, 74), 4022), (46, (0, 1, 62), 4041), (52, (0, 2, 75), 4042)], [(67, (1, 1, 117), 2078), (71, (0, 1, 113), 2081), (75, (0, 2, 56), 2085), (79, (0, 1, 115), 2100), (82, (0, 1, 59), 2112), (85, (0, 2, 61), 2116), (89, (0, 0, 58), 2104), (93, (0, 0, 57), 2108), (99, (0, 2, 60), 2125), (107, (3, 5, 0), 2129), (113, (0, 0, 54), 2140), (116, (0, 1, 5), 2141), (120, (0, 1, 55), 2145), (127, (0, 1, 36), 2157), (135, (0, 0, 39), 2161), (139, (0, 1, 10), 2165), (143, (1, 1, 120), 2196), (146, (0, 3, 116), 2197), (150, (0, 7, 14), 2207), (154, (1, 1, 118), 2201), (157, (1, 1, 119), 2204), (163, (0, 3, 15), 3085), (167, (0, 1, 64), 3093), (193, (0, 0, 37), 3138), (199, (0, 3, 16), 3142), (206, (0, 1, 1), 3154), (216, (0, 2, 17), 3170), (219, (0, 1, 11), 3178), (231, (0, 1, 114), 3194), (234, (0, 2, 46), 3198), (238, (0, 1, 48), 3210), (242, (0, 1, 49), 3218), (245, (0, 1, 50), 3222), (248, (0, 1, 51), 3231), (252, (1, 1, 121), 4000), (255, (0, 1, 52), 4001), (265, (0, 1, 74), 4014), (268, (0, 2, 75), 4018), (283, (0, 2, 76), 4037), (287, (0, 1, 12), 4047), (293, (0, 1, 4), 4060)], [(43, (1, 3, 123), 4164), (47, (1, 1, 130), 4161), (51, (0, 1, 124), 4167), (55, (0, 1, 132), 4175), (58, (0, 1, 135), 4187), (61, (0, 1, 126), 4195), (64, (0, 1, 140), 5012), (67, (0, 1, 139), 5016), (70, (0, 1, 141), 5020), (73, (1, 1, 129), 4207), (76, (0, 1, 142), 5008), (79, (0, 2, 145), 5004), (83, (0, 2, 144), 5039), (86, (0, 0, 152), 4232), (90, (0, 1, 151), 4236), (113, (0, 2, 147), 5035), (117, (1, 3, 148), 5024), (120, (0, 1, 155), 5043), (123, (0, 1, 143), 5047), (126, (0, 2, 154), 5051), (130, (0, 3, 149), 5055), (134, (0, 4, 150), 5059), (138, (0, 5, 156), 5031), (142, (0, 1, 153), 4228), (145, (0, 1, 158), 5067), (148, (0, 3, 157), 5027), (152, (0, 1, 161), 5000), (155, (0, 0, 159), 5063), (158, (1, 1, 128), 4214), (161, (1, 1, 127), 4217), (164, (0, 3, 163), 4210), (168, (0, 6, 160), 4220), (172, (0, 2, 162), 4224), (184, (0, 0, 169), 5103), (187, (0, 1, 170), 5107), (190, (0, 2, 171), 5099), (194, (0, 0, 172), 5115), (198, (0, 0, 173), 5111), (201, (0, 1, 174), 5095), (205, (0, 1, 175), 5091), (209, (0, 1, 178), 5127), (221, (0, 1, 182), 5147), (224, (1, 2, 183), 5151), (227, (0, 2, 186), 5158), (230, (0, 0, 184), 5143), (233, (0, 2, 185), 5154), (236, (0, 1, 188), 5166), (239, (0, 1, 191), 5178), (242, (0, 1, 146), 5194), (245, (0, 2, 194), 5190), (248, (0, 1, 125), 5198), (252, (0, 0, 200), 5223), (258, (0, 1, 205), 6005)], [], [], [(13, (0, 3, 78), 2074), (17, (0, 3, 131), 4157), (20, (0, 3, 79), 2096), (24, (0, 3, 133), 4171), (25, (0, 5, 80), 2121), (29, (0, 5, 134), 4179), (30, (0, 2, 81), 2132), (34, (0, 2, 136), 4183), (35, (0, 2, 82), 2136), (39, (0, 2, 137), 4191), (40, (0, 1, 83), 2149), (44, (0, 1, 138), 4199), (45, (0, 2, 84), 2153), (48, (0, 2, 192), 5174), (49, (0, 5, 85), 2192), (52, (0, 5, 164), 4203), (53, (0, 5, 86), 3069), (56, (0, 5, 165), 5071), (57, (0, 4, 87), 3073), (61, (0, 4, 166), 5075), (62, (0, 4, 88), 3077), (65, (0, 4, 167), 5079), (66, (0, 3, 89), 3081), (69, (0, 3, 168), 5083), (70, (0, 1, 90), 3089), (73, (0, 1, 176), 5087), (74, (0, 0, 91), 3126), (78, (0, 0, 177), 5119), (79, (0, 1, 92), 3130), (82, (0, 1, 179), 5123), (83, (0, 3, 93), 3134), (86, (0, 3, 180), 5131), (87, (0, 1, 94), 3146), (90, (0, 1, 181), 5135), (91, (0, 0, 95), 3150), (94, (0, 0, 187), 5139), (95, (0, 0, 96), 3174), (98, (0, 0, 189), 5162), (99, (0, 1, 97), 3182), (102, (0, 1, 190), 5170), (103, (0, 2, 98), 3186), (106, (0, 2, 193), 5182), (107, (0, 2, 99), 3190), (110, (0, 2, 195), 5186), (111, (0, 3, 100), 3214), (114, (0, 3, 196), 5202), (115, (0, 1, 101), 3227), (118, (0, 1, 197), 5206), (119, (0, 2, 102), 3235), (122, (0, 2, 198), 5210), (123, (0, 0, 103), 4006), (126, (0, 0, 199), 5215), (127, (0, 2, 104), 4010), (130, (0, 2, 201), 5219), (131, (0, 1, 105), 4023), (134, (0, 1, 202), 5227), (135, (0, 1, 106), 4028), (138, (0, 1, 203), 5232), (139, (0, 2, 107), 4033), (142, (0, 2, 204), 5237), (143, (0, 1, 108), 4043), (146, (0, 1, 206), 6001), (147, (0, 1, 109), 4052), (150, (0, 1, 207), 6010), (151, (0, 0, 110), 4056), (154, (0, 0, 208), 6014), (155, (0, 0, 111), 4073), (158, (0, 0, 209), 6018), (159, (0, 1, 112), 4077), (162, (0, 1, 210), 6022)]]
def site (c x : Nat) : Option (Nat × Nat × Nat) := ((siteT.getD c []).find? (fun q => q.1 == x)).map (fun q => q.2.1)
/-- fields by class and pool number: the class, the slot; the place of the link's word -/
def fldT : List (List (Nat × (Nat × Nat) × Nat)) := [[(9, (0, 0), 1188), (15, (0, 1), 1189), (18, (0, 2), 1190), (22, (0, 3), 1192), (25, (1, 1), 1140), (31, (7, 4), 1052), (56, (1, 2), 1146), (59, (1, 0), 1138), (63, (3, 5), 1097), (68, (3, 1), 1077), (71, (3, 7), 1104), (76, (3, 3), 1086), (79, (3, 4), 1091)], [(11, (1, 0), 1135), (20, (1, 1), 1139), (24, (1, 2), 1143), (28, (1, 3), 1148), (31, (1, 4), 1151), (34, (1, 5), 1154), (37, (1, 6), 1156), (50, (3, 10), 1111), (53, (3, 5), 1098), (66, (3, 1), 1079), (69, (3, 7), 1106), (80, (3, 3), 1087)], [(12, (2, 0), 1174), (23, (2, 1), 1176), (27, (1, 2), 1144), (31, (1, 0), 1136), (39, (3, 5), 1096), (56, (3, 0), 1073), (66, (3, 6), 1101), (69, (3, 1), 1078), (72, (3, 4), 1092), (75, (3, 7), 1105), (98, (1, 3), 1149), (108, (3, 3), 1088), (117, (1, 4), 1152), (120, (3, 2), 1083), (148, (3, 9), 1109), (154, (1, 1), 1141), (176, (7, 4), 1053)], [(9, (3, 1), 1076), (15, (3, 2), 1081), (18, (3, 3), 1085), (21, (3, 4), 1090), (24, (3, 5), 1095), (27, (3, 6), 1100), (30, (3, 7), 1103), (33, (3, 8), 1107), (36, (3, 9), 1108), (39, (3, 10), 1110), (42, (3, 0), 1072)], [(11, (4, 0), 1210), (17, (4, 1), 1211), (21, (4, 2), 1212), (31, (1, 2), 1145), (34, (1, 0), 1137), (56, (3, 4), 1093)], [(9, (5, 0), 2024), (15, (5, 1), 2026), (19, (5, 2), 2029), (22, (5, 3), 2031)], [(11, (6, 0), 1226), (15, (6, 1), 1228), (18, (6, 2), 1230), (21, (6, 3), 1232), (24, (6, 4), 1234), (27, (6, 5), 1236), (31, (6, 6), 1238), (34, (6, 7), 1239), (41, (5, 1), 2027)], [(9, (7, 0), 1044), (15, (7, 1), 1045), (18, (7, 2), 1047), (21, (7, 3), 1049), (25, (7, 4), 1051), (34, (3, 0), 1074), (39, (3, 2), 1082)], [(11, (8, 0), 2043), (15, (8, 1), 2044), (22, (8, 2), 2045), (26, (2, 0), 1175), (30, (8, 3), 2046), (34, (8, 4), 2047), (41, (8, 5), 2048), (48, (8, 6), 2049), (55, (8, 7), 2050), (58, (8, 8), 2051), (62, (8, 9), 2052), (96, (5, 2), 2030), (103, (5, 0), 2025), (124, (5, 3), 2032), (132, (3, 4), 1094), (160, (1, 3), 1150), (171, (6, 5), 1237), (174, (1, 2), 1147), (175, (6, 4), 1235), (178, (6, 0), 1227), (181, (6, 1), 1229), (184, (6, 2), 1231), (187, (6, 3), 1233), (190, (3, 5), 1099), (196, (3, 6), 1102), (203, (1, 4), 1153), (210, (0, 2), 1191), (213, (0, 3), 1193), (222, (3, 1), 1080), (225, (3, 2), 1084), (228, (3, 3), 1089), (239, (3, 0), 1075), (258, (1, 1), 1142), (262, (7, 3), 1050), (273, (7, 1), 1046), (277, (7, 2), 1048), (280, (5, 1), 2028), (290, (1, 5), 1155), (296, (7, 4), 1054)], [(7, (9, 1), 4087), (13, (9, 2), 4088), (16, (9, 4), 4090), (19, (9, 5), 4091), (22, (9, 6), 4092), (25, (9, 7), 4093), (29, (9, 8), 4094), (32, (9, 18), 4104), (36, (9, 22), 4108), (94, (9, 13), 4099), (98, (9, 11), 4097), (101, (9, 14), 4100), (104, (9, 9), 4095), (107, (9, 10), 4096), (110, (9, 12), 4098), (175, (9, 16), 4102), (178, (9, 15), 4101), (181, (9, 17), 4103), (212, (9, 19), 4105), (215, (9, 20), 4106), (218, (9, 21), 4107), (261, (9, 3), 4089)], [], [], []]
def fld (c x : Nat) : Option (Nat × Nat) := ((fldT.getD c []).find? (fun q => q.1 == x)).map (fun q => q.2.1)
/-- a method's words' places: code, instance or static, selects; a class's: that it is initialised -/
def mPt : List (Nat × Nat × Nat) := [(1186, 1185, 9999), (3157, 3155, 3156), (3161, 3160, 20), (1034, 1033, 9999), (4063, 4061, 4062), (2144, 2142, 2143), (2229, 2227, 2228), (2218, 2216, 2217), (2176, 2174, 2175), (2172, 2170, 2171), (2168, 2166, 2167), (3181, 3179, 3180), (4050, 4048, 4049), (1028, 1027, 9999), (2210, 2208, 2209), (3088, 3086, 3087), (3145, 3143, 3144), (3173, 3171, 3172), (2233, 2232, 3), (3043, 3042, 9), (3068, 3067, 9999), (3053, 3052, 9999), (3047, 3046, 10), (3004, 3003, 9999), (2237, 2236, 4), (3020, 3019, 6), (3037, 3036, 8), (3025, 3024, 7), (3008, 3007, 5), (3012, 3011, 9999), (3057, 3056, 11), (3061, 3060, 12), (3065, 3064, 13), (1070, 1069, 9999), (2214, 2212, 2213), (4067, 4065, 4066), (2160, 2158, 2159), (3141, 3139, 3140), (2180, 2178, 2179), (2164, 2162, 2163), (2188, 2186, 2187), (2184, 2182, 2183), (3033, 3031, 3032), (3016, 3014, 3015), (2222, 2220, 2221), (1207, 1206, 9999), (3201, 3199, 3200), (3208, 3207, 22), (3213, 3211, 3212), (3221, 3219, 3220), (3225, 3223, 3224), (3234, 3232, 3233), (4004, 4002, 4003), (2022, 2021, 9999), (2092, 2090, 2091), (2148, 2146, 2147), (2088, 2086, 2087), (2111, 2109, 2110), (2107, 2105, 2106), (2115, 2113, 2114), (2128, 2126, 2127), (2119, 2117, 2118), (3112, 3110, 3111), (1224, 1223, 9999), (3096, 3094, 3095), (3100, 3099, 14), (3108, 3107, 16), (3116, 3115, 17), (3104, 3103, 15), (3120, 3119, 18), (3124, 3123, 19), (1042, 1041, 9999), (4071, 4069, 4070), (3029, 3027, 3028), (4017, 4015, 4016), (4021, 4019, 4020), (4040, 4038, 4039), (1018, 1017, 9999), (2077, 2075, 2076), (2099, 2097, 2098), (2124, 2122, 2123), (2135, 2133, 2134), (2139, 2137, 2138), (2152, 2150, 2151), (2156, 2154, 2155), (2195, 2193, 2194), (3072, 3070, 3071), (3076, 3074, 3075), (3080, 3078, 3079), (3084, 3082, 3083), (3092, 3090, 3091), (3129, 3127, 3128), (3133, 3131, 3132), (3137, 3135, 3136), (3149, 3147, 3148), (3153, 3151, 3152), (3177, 3175, 3176), (3185, 3183, 3184), (3189, 3187, 3188), (3193, 3191, 3192), (3217, 3215, 3216), (3230, 3228, 3229), (3238, 3236, 3237), (4009, 4007, 4008), (4013, 4011, 4012), (4026, 4024, 4025), (4031, 4029, 4030), (4036, 4034, 4035), (4046, 4044, 4045), (4055, 4053, 4054), (4059, 4057, 4058), (4076, 4074, 4075), (4080, 4078, 4079), (2084, 2083, 0), (3197, 3196, 21), (2103, 2102, 1), (2200, 2199, 2), (2080, 2079, 9999), (2203, 2202, 9999), (2206, 2205, 9999), (2191, 2190, 9999), (3000, 2239, 9999), (4085, 4084, 9999), (4166, 4165, 9999), (4170, 4169, 23), (5201, 5200, 66), (4198, 4197, 26), (4219, 4218, 9999), (4216, 4215, 9999), (4209, 4208, 9999), (4163, 4162, 9999), (4160, 4158, 4159), (4178, 4177, 24), (4174, 4172, 4173), (4182, 4180, 4181), (4190, 4189, 25), (4186, 4184, 4185), (4194, 4192, 4193), (4202, 4200, 4201), (5019, 5018, 37), (5015, 5014, 36), (5023, 5022, 38), (5011, 5010, 35), (5050, 5049, 44), (5042, 5041, 42), (5007, 5006, 34), (5197, 5196, 65), (5038, 5037, 41), (5026, 5025, 9999), (5058, 5057, 46), (5062, 5061, 47), (4239, 4238, 32), (4235, 4234, 31), (4231, 4230, 30), (5054, 5053, 45), (5046, 5045, 43), (5034, 5033, 40), (5030, 5029, 39), (5070, 5069, 49), (5066, 5065, 48), (4223, 4222, 28), (5003, 5002, 33), (4227, 4226, 29), (4213, 4212, 27), (4206, 4204, 4205), (5074, 5072, 5073), (5078, 5076, 5077), (5082, 5080, 5081), (5086, 5084, 5085), (5106, 5105, 53), (5110, 5109, 54), (5102, 5101, 52), (5118, 5117, 56), (5114, 5113, 55), (5098, 5097, 51), (5094, 5093, 50), (5090, 5088, 5089), (5122, 5120, 5121), (5130, 5129, 57), (5126, 5124, 5125), (5134, 5132, 5133), (5138, 5136, 5137), (5150, 5149, 59), (5153, 5152, 9999), (5146, 5145, 58), (5157, 5156, 60), (5161, 5160, 61), (5142, 5140, 5141), (5169, 5168, 62), (5165, 5163, 5164), (5173, 5171, 5172), (5181, 5180, 63), (5177, 5175, 5176), (5185, 5183, 5184), (5193, 5192, 64), (5189, 5187, 5188), (5205, 5203, 5204), (5209, 5207, 5208), (5213, 5211, 5212), (5218, 5216, 5217), (5226, 5225, 67), (5222, 5220, 5221), (5230, 5228, 5229), (5235, 5233, 5234), (6000, 5238, 5239), (6008, 6007, 68), (6004, 6002, 6003), (6013, 6011, 6012), (6017, 6015, 6016), (6021, 6019, 6020), (6025, 6023, 6024), (2095, 2094, 9999), (3164, 3163, 9999), (9999, 9999, 9999)]
def iPt : List Nat := [1006, 1003, 1002, 1005, 1007, 1009, 1008, 1004, 1001, 1010, 1011, 1013, 1000]
/-- constants by class and pool number -/
def cstT : List (Nat × Nat × Int) := [(1, 90, 1103515245), (8, 251, 99999), (8, 272, 1000000), (8, 276, 1000000000), (9, 251, 99999), (9, 255, 1000000), (9, 256, 1000000000), (9, 257, 1103515245)]
def cst (c x : Nat) : Option Int := (cstT.find? (fun q => q.1 == c && q.2.1 == x)).map (fun q => q.2.2)
def cstL (c x : Nat) : Option Int64 := if c = 12 ∧ x = 18 then some 4294967295 else none
/-! one step -/
abbrev aG : Type := Nat × List AV × List AV × aM
abbrev aS : Type := aG ⊕ ((Option AV × aM) ⊕ (Nat × List AV × aG))
def cat (v : AV) : Nat := match v with
  | .inl _ => 1
  | .inr (.inl _) => 2
  | .inr (.inr (.inl _)) => 1
  | .inr (.inr (.inr _)) => 9
def cats (r : List AV) : Nat := (r.map cat).sum
def isJ (v : AV) : Bool := match v with
  | .inr (.inl _) => true
  | _ => false
/-- the place k may be stored to: no long stands right ahead of it -/
def okSt (L : List AV) (k : Nat) : Bool := match k with
  | 0 => true
  | k + 1 => !(((L[k]?).map isJ).getD true)
def inr32 (n : Int) : Bool := decide (-2147483648 ≤ n) && decide (n < 2147483648)
abbrev go1 (pc : Nat) (L st : List AV) (σ : aM) : Option aS := some (.inl (pc, L, st, σ))
def tg (pc : Nat) (off : Int) : Option Nat := if 0 ≤ (pc : Int) + off then some ((pc : Int) + off).toNat else none
def bcnd (k : ClassFile.Cond) (a b : Int) : Bool := match k with
  | .eq => decide (a = b)
  | .ne => !decide (a = b)
  | .lt => decide (a < b)
  | .ge => decide (b ≤ a)
  | .gt => decide (b < a)
  | .le => decide (a ≤ b)
def brn (pc : Nat) (off : Int) (b : Bool) (L st : List AV) (σ : aM) : Option aS := match tg pc off with
  | some t => if b = true then go1 t L st σ else go1 (pc + 3) L st σ
  | none => none
def stS (pc n k : Nat) (v : AV) (L st : List AV) (σ : aM) : Option aS := if k < L.length ∧ okSt L k = true then go1 (pc + n) (L.set k v) st σ else none
def stJ (pc n k : Nat) (v : AV) (L st : List AV) (σ : aM) : Option aS := if k + 1 < L.length ∧ okSt L k = true then go1 (pc + n) ((L.set k v).set (k + 1) aU) st σ else none
def shr (a b : Int) : Int := ((Int32.ofInt a).toUInt32 >>> ((Int32.ofInt b).toUInt32 &&& Int32.toUInt32 31)).toInt32.toInt
def rem (a b : Int) : Int := (Int32.ofInt a - Int32.ofInt a / Int32.ofInt b * Int32.ofInt b).toInt
def quo (a b : Int) : Int := (Int32.ofInt a / Int32.ofInt b).toInt
def ian (a b : Int) : Int := (Int32.ofInt a &&& Int32.ofInt b).toInt
def tob (a : Int) : Int := (Int32.ofInt a).toInt8.toInt32.toInt
def tos (a : Int) : Int := (Int32.ofInt a).toInt16.toInt32.toInt
def toj (a : Int) : Int64 := (Int32.ofInt a).toInt64
def toi (x : Int64) : Int := x.toInt32.toInt
/-- a method's locals at its entry -/
def lay (as : List AV) : List AV := as.flatMap fun v => if isJ v then [v, aU] else [v]
def lay0 (y : Nat) (as : List AV) : List AV := lay as ++ List.replicate (mL y - (lay as).length) aU
def okCall (y y' : Nat) (L r : List AV) (as : List AV) : Bool := decide (L.length = mL y) && decide (mF y' + 1 ≤ mF y) && decide (8 + (mL y' + 11) + mW y' ≤ mW y) && decide (cats r ≤ 8) && decide ((lay as).length ≤ mL y')
def isB (v : Int) : Bool := decide (v = 0) || decide (v = 1)
def ldA (t : Nat) (i a : Int) (σ : aM) (T pc : Nat) (L st : List AV) (v : AV) : Option aS := if fT t = T ∧ (0 ≤ a ∧ a < aLen σ t) then go1 (pc + 1) L (v :: st) σ else none
def call (y x pc : Nat) (K : Nat) (L st : List AV) (σ : aM) : Option aS := match site (mC y) x with
  | some (0, n, y') => (if K = 0 then (match st.drop n with
    | .inr (.inr (.inl (some (t, i)))) :: r => if fC t = mC y' ∧ n ≤ st.length ∧ okCall y y' L r (aR t i :: (st.take n).reverse) = true then some (.inr (.inr (y', aR t i :: (st.take n).reverse, (pc + 3, L, r, σ)))) else none
    | _ => none) else none)
  | some (1, n, y') => (if K = 1 ∧ n ≤ st.length ∧ okCall y y' L (st.drop n) ((st.take n).reverse) = true then some (.inr (.inr (y', (st.take n).reverse, (pc + 3, L, st.drop n, σ)))) else none)
  | some (2, n, y') => (if K = 1 ∧ n ≤ st.length ∧ okCall y y' L (st.drop n) ((st.take n).reverse) = true then some (.inr (.inr (y', (st.take n).reverse, (pc + 3, L, st.drop n, σ)))) else none)
  | some (3, _, _) => (match st with
    | .inl n :: .inl b :: .inr (.inr (.inl (some (t2, i2)))) :: .inl a :: .inr (.inr (.inl (some (t, i)))) :: r =>
      if K = 1 ∧ fT t = fT t2 ∧ t < 34 ∧ t2 < 34 ∧ 0 ≤ a ∧ 0 ≤ b ∧ 0 ≤ n ∧ a + n ≤ fL t ∧ b + n ≤ fL t2 ∧ 1 ≤ mF y ∧ cats r + 40 ≤ mW y ∧ L.length = mL y then
        (match fT t with
        | 0 => go1 (pc + 3) L r (kI σ t i a t2 i2 b n)
        | 1 => go1 (pc + 3) L r (kL σ t i a t2 i2 b n)
        | _ => none) else none
    | _ => none)
  | some (4, _, _) => (match st with
    | .inl b :: .inl a :: r => if K = 1 ∧ 1 ≤ mF y ∧ cats r + 13 ≤ mW y ∧ L.length = mL y then go1 (pc + 3) L (aI (if b < a then b else a) :: r) σ else none
    | _ => none)
  | some (5, _, _) => (match st with
    | .inl a :: r => if K = 1 ∧ 1 ≤ mF y ∧ cats r + 13 ≤ mW y ∧ L.length = mL y then go1 (pc + 3) L (aI (if 0 ≤ a then a else wr (0 - a)) :: r) σ else none
    | _ => none)
  | _ => none
def stp (y : Nat) (ins : Instr) (pc : Nat) (L st : List AV) (σ : aM) : Option aS := match ins with
  | .aload_n k => (match L[(k : Nat)]? with | some (.inr (.inr (.inl q))) => go1 (pc + 1) L (aQ q :: st) σ | _ => none)
  | .aload k => (match L[k]? with | some (.inr (.inr (.inl q))) => go1 (pc + 2) L (aQ q :: st) σ | _ => none)
  | .iload_n k => (match L[(k : Nat)]? with | some (.inl v) => go1 (pc + 1) L (aI v :: st) σ | _ => none)
  | .iload k => (match L[k]? with | some (.inl v) => go1 (pc + 2) L (aI v :: st) σ | _ => none)
  | .lload_n k => (match L[(k : Nat)]? with | some (.inr (.inl v)) => go1 (pc + 1) L (aJ v :: st) σ | _ => none)
  | .istore_n k => (match st with | .inl v :: r => stS pc 1 k (aI v) L r σ | _ => none)
  | .istore k => (match st with | .inl v :: r => stS pc 2 k (aI v) L r σ | _ => none)
  | .astore_n k => (match st with | .inr (.inr (.inl q)) :: r => stS pc 1 k (aQ q) L r σ | _ => none)
  | .astore k => (match st with | .inr (.inr (.inl q)) :: r => stS pc 2 k (aQ q) L r σ | _ => none)
  | .iinc k n => (match L[k]? with | some (.inl v) => stS pc 3 k (aI (wr (v + n))) L st σ | _ => none)
  | .aconst_null => go1 (pc + 1) L (aN :: st) σ
  | .iconst n => if inr32 n = true then go1 (pc + 1) L (aI n :: st) σ else none
  | .bipush n => if -128 ≤ n ∧ n < 128 then go1 (pc + 2) L (aI n :: st) σ else none
  | .sipush n => if -32768 ≤ n ∧ n < 32768 then go1 (pc + 3) L (aI n :: st) σ else none
  | .lconst n => go1 (pc + 1) L (aJ (Int64.ofNat (n : Nat)) :: st) σ
  | .ldc x => (match cst (mC y) x with | some v => if inr32 v = true then go1 (pc + 2) L (aI v :: st) σ else none | none => none)
  | .ldc_w x => (match cst (mC y) x with | some v => if inr32 v = true then go1 (pc + 3) L (aI v :: st) σ else none | none => none)
  | .ldc2_w x => (match cstL (mC y) x with | some v => go1 (pc + 3) L (aJ v :: st) σ | none => none)
  | .dup => (match st with | v :: r => if cat v = 1 then go1 (pc + 1) L (v :: v :: r) σ else none | _ => none)
  | .dup2 => (match st with | u :: v :: r => if cat u = 1 ∧ cat v = 1 then go1 (pc + 1) L (u :: v :: u :: v :: r) σ else none | _ => none)
  | .pop => (match st with | v :: r => if cat v = 1 then go1 (pc + 1) L r σ else none | _ => none)
  | .iadd => (match st with | .inl b :: .inl a :: r => go1 (pc + 1) L (aI (wr (a + b)) :: r) σ | _ => none)
  | .isub => (match st with | .inl b :: .inl a :: r => go1 (pc + 1) L (aI (wr (a - b)) :: r) σ | _ => none)
  | .imul => (match st with | .inl b :: .inl a :: r => go1 (pc + 1) L (aI (wr (a * b)) :: r) σ | _ => none)
  | .idiv => (match st with | .inl b :: .inl a :: r => if b ≠ 0 then go1 (pc + 1) L (aI (quo a b) :: r) σ else none | _ => none)
  | .irem => (match st with | .inl b :: .inl a :: r => if b ≠ 0 then go1 (pc + 1) L (aI (rem a b) :: r) σ else none | _ => none)
  | .iand => (match st with | .inl b :: .inl a :: r => go1 (pc + 1) L (aI (ian a b) :: r) σ | _ => none)
  | .iushr => (match st with | .inl b :: .inl a :: r => go1 (pc + 1) L (aI (shr a b) :: r) σ | _ => none)
  | .ineg => (match st with | .inl a :: r => go1 (pc + 1) L (aI (wr (-a)) :: r) σ | _ => none)
  | .i2b => (match st with | .inl a :: r => go1 (pc + 1) L (aI (tob a) :: r) σ | _ => none)
  | .i2s => (match st with | .inl a :: r => go1 (pc + 1) L (aI (tos a) :: r) σ | _ => none)
  | .i2l => (match st with | .inl a :: r => go1 (pc + 1) L (aJ (toj a) :: r) σ | _ => none)
  | .l2i => (match st with | .inr (.inl x) :: r => go1 (pc + 1) L (aI (toi x) :: r) σ | _ => none)
  | .ladd => (match st with | .inr (.inl z) :: .inr (.inl x) :: r => go1 (pc + 1) L (aJ (x + z) :: r) σ | _ => none)
  | .land => (match st with | .inr (.inl z) :: .inr (.inl x) :: r => go1 (pc + 1) L (aJ (x &&& z) :: r) σ | _ => none)
  | .lor => (match st with | .inr (.inl z) :: .inr (.inl x) :: r => go1 (pc + 1) L (aJ (x ||| z) :: r) σ | _ => none)
  | .lshl => (match st with | .inl b :: .inr (.inl x) :: r => go1 (pc + 1) L (aJ (x <<< (toj b &&& 63)) :: r) σ | _ => none)
  | .lcmp => (match st with | .inr (.inl z) :: .inr (.inl x) :: r => go1 (pc + 1) L (aI (lg_cmp x z).toInt :: r) σ | _ => none)
  | .getfield x => (match st with
    | .inr (.inr (.inl (some (t, i)))) :: r => (match fld (mC y) x with
      | some (c, k) => if fC t = c then (match sK c k with
        | 0 => go1 (pc + 3) L (aI (gI σ t i (k : Int)) :: r) σ
        | 1 => go1 (pc + 3) L (aI (gI σ t i (k : Int)) :: r) σ
        | 2 => go1 (pc + 3) L (aQ (cref t i k) :: r) σ
        | 3 => go1 (pc + 3) L (aI (gI σ t i (k : Int)) :: r) σ
        | _ => none) else none
      | none => none)
    | _ => none)
  | .putfield x => (match st with
    | .inl v :: .inr (.inr (.inl (some (t, i)))) :: r => (match fld (mC y) x with
      | some (c, k) => if fC t = c then (match sK c k with
        | 0 => go1 (pc + 3) L r (uI σ t i (k : Int) v)
        | 1 => if isB v = true then go1 (pc + 3) L r (uI σ t i (k : Int) v) else none
        | _ => none) else none
      | none => none)
    | _ => none)
  | .arraylength => (match st with | .inr (.inr (.inl (some (t, _)))) :: r => if fC t = 99 ∧ inr32 (aLen σ t) = true then go1 (pc + 1) L (aI (aLen σ t) :: r) σ else none | _ => none)
  | .iaload => (match st with | .inl a :: .inr (.inr (.inl (some (t, i)))) :: r => ldA t i a σ 0 pc L r (aI (gI σ t i a)) | _ => none)
  | .baload => (match st with | .inl a :: .inr (.inr (.inl (some (t, i)))) :: r => ldA t i a σ 2 pc L r (aI (gI σ t i a)) | _ => none)
  | .laload => (match st with | .inl a :: .inr (.inr (.inl (some (t, i)))) :: r => ldA t i a σ 1 pc L r (aJ (gL σ t i a)) | _ => none)
  | .aaload => (match st with | .inl a :: .inr (.inr (.inl (some (t, i)))) :: r => if 3 ≤ fT t ∧ fT t ≤ 5 ∧ (0 ≤ a ∧ a < aLen σ t) then go1 (pc + 1) L (aQ (aref σ t i a) :: r) σ else none | _ => none)
  | .iastore => (match st with | .inl v :: .inl a :: .inr (.inr (.inl (some (t, i)))) :: r => if fT t = 0 ∧ t ≠ 34 ∧ (0 ≤ a ∧ a < aLen σ t) then go1 (pc + 1) L r (uI σ t i a v) else none | _ => none)
  | .bastore => (match st with | .inl v :: .inl a :: .inr (.inr (.inl (some (t, i)))) :: r => if fT t = 2 ∧ isB v = true ∧ (0 ≤ a ∧ a < aLen σ t) then go1 (pc + 1) L r (uI σ t i a v) else none | _ => none)
  | .lastore => (match st with | .inr (.inl v) :: .inl a :: .inr (.inr (.inl (some (t, i)))) :: r => if fT t = 1 ∧ (0 ≤ a ∧ a < aLen σ t) then go1 (pc + 1) L r (uL σ t i a v) else none | _ => none)
  | .aastore => (match st with | .inr (.inr (.inl (some (t2, i2)))) :: .inl a :: .inr (.inr (.inl (some (t, _)))) :: r => if t = 17 ∧ t2 = 8 ∧ (0 ≤ a ∧ a < aLen σ t) then go1 (pc + 1) L r (uR σ a (some (t2, i2))) else none | _ => none)
  | .if_icmp k off => (match st with | .inl b :: .inl a :: r => brn pc off (bcnd k a b) L r σ | _ => none)
  | .ifCond k off => (match st with | .inl a :: r => brn pc off (bcnd k a 0) L r σ | _ => none)
  | .if_acmp k off => (match st with | .inr (.inr (.inl q2)) :: .inr (.inr (.inl q1)) :: r => (match k with | .ne => brn pc off (!decide (q1 = q2)) L r σ | .eq => none) | _ => none)
  | .ifnull off => (match st with | .inr (.inr (.inl q)) :: r => brn pc off (q.isNone) L r σ | _ => none)
  | .ifnonnull off => (match st with | .inr (.inr (.inl q)) :: r => brn pc off (q.isSome) L r σ | _ => none)
  | .goto off => (match tg pc off with | some t => go1 t L st σ | none => none)
  | .tableswitch dflt lo hi offs => (match st with
    | .inl a :: r => (if a < lo ∨ hi < a then (match tg pc dflt with | some t => go1 t L r σ | none => none)
      else (match offs[(a - lo).toNat]? with | some off => (match tg pc off with | some t => go1 t L r σ | none => none) | none => none))
    | _ => none)
  | .invokevirtual x => call y x pc 0 L st σ
  | .invokestatic x => call y x pc 1 L st σ
  | .ireturn => (match st with | [.inl a] => (match mRt y with | some .int => some (.inr (.inl (some (aI a), σ))) | some .boolean => if isB a = true then some (.inr (.inl (some (aI a), σ))) else none | _ => none) | _ => none)
  | .lreturn => (match st with | [.inr (.inl a)] => (match mRt y with | some .long => some (.inr (.inl (some (aJ a), σ))) | _ => none) | _ => none)
  | .areturn => (match st with | [.inr (.inr (.inl q))] => (match mRt y with | some (.object _) => some (.inr (.inl (some (aQ q), σ))) | _ => none) | _ => none)
  | .return_ => (match st with | [] => (match mRt y with | none => some (.inr (.inl (none, σ))) | _ => none) | _ => none)
  | _ => none
/-- an instruction's length (0: a switch's, which its step doesn't use) -/
def ilen (i : Instr) : Nat := match i with
  | .aload _ | .iload _ | .istore _ | .astore _ | .bipush _ | .ldc _ => 2
  | .iinc _ _ | .sipush _ | .ldc_w _ | .ldc2_w _ | .getfield _ | .putfield _ | .if_icmp _ _ | .ifCond _ _ | .if_acmp _ _ | .ifnull _ | .ifnonnull _ | .goto _ | .invokevirtual _ | .invokestatic _ => 3
  | .tableswitch _ _ _ _ => 0
  | _ => 1
def fetch (y pc : Nat) : Option Instr := match decode (mCd y) pc with
  | .ok (i, n) => if ilen i = 0 ∨ n = ilen i then some i else none
  | .error _ => none
def runF : Nat → Nat → aG → Option (Option AV × aM)
  | 0, _, _ => none
  | n + 1, y, (pc, L, st, σ) => match fetch y pc with
    | none => none
    | some i => match stp y i pc L st σ with
      | none => none
      | some (.inl c) => runF n y c
      | some (.inr (.inl r)) => some r
      | some (.inr (.inr (y', as, (pc', L', r, σ')))) => match runF n y' (0, lay0 y' as, [], σ') with
        | none => none
        | some (v, σ'') => runF n y (pc', L', v.toList ++ r, σ'')
theorem runF_succ : ∀ (n y : Nat) (c : aG) (r : Option AV × aM), runF n y c = some r → runF (n + 1) y c = some r := by
  intro n
  induction n with
  | zero => intro y c r h; cases h
  | succ n ih =>
    intro y c r h
    obtain ⟨pc, L, st, σ⟩ := c
    rw [runF] at h ⊢
    cases hf : fetch y pc with
    | none => rw [hf] at h; cases h
    | some i =>
      rw [hf] at h
      dsimp only at h ⊢
      cases hs : stp y i pc L st σ with
      | none => rw [hs] at h; cases h
      | some q =>
        rw [hs] at h
        obtain c | r' | ⟨y', as, pc', L', r', σ'⟩ := q
        · exact ih y c r h
        · exact h
        · dsimp only at h ⊢
          cases hc : runF n y' (0, lay0 y' as, [], σ') with
          | none => rw [hc] at h; cases h
          | some p =>
            rw [hc] at h
            rw [ih _ _ _ hc]
            exact ih _ _ _ h
theorem runF_le {n k : Nat} (hk : n ≤ k) {y : Nat} {c : aG} {r : Option AV × aM} (h : runF n y c = some r) : runF k y c = some r := by
  induction hk with
  | refl => exact h
  | step _ ih => exact runF_succ _ _ _ _ ih
/-- what a run comes to -/
noncomputable def ev (y pc : Nat) (L st : List AV) (σ : aM) : Option (Option AV × aM) :=
  @dite _ (∃ (r : Option AV × aM) (n : Nat), runF n y (pc, L, st, σ) = some r) (Classical.propDecidable _) (fun h => some h.choose) (fun _ => none)
theorem ev_iff {y pc : Nat} {L st : List AV} {σ : aM} {r : Option AV × aM} : ev y pc L st σ = some r ↔ ∃ n, runF n y (pc, L, st, σ) = some r := by
  unfold ev
  split
  · rename_i h
    constructor
    · intro e
      cases e
      exact h.choose_spec
    · rintro ⟨n, hn⟩
      obtain ⟨k, hk⟩ := h.choose_spec
      have h1 := runF_le (Nat.le_max_left n k) hn
      have h2 := runF_le (Nat.le_max_right n k) hk
      rw [h1] at h2
      exact h2.symm
  · rename_i h
    constructor
    · intro e; cases e
    · rintro ⟨n, hn⟩
      exact absurd ⟨r, n, hn⟩ h
theorem ev_ext {y pc : Nat} {L st : List AV} {σ : aM} {y2 pc2 : Nat} {L2 st2 : List AV} {σ2 : aM} (h : ∀ r, (∃ n, runF n y (pc, L, st, σ) = some r) ↔ ∃ n, runF n y2 (pc2, L2, st2, σ2) = some r) : ev y pc L st σ = ev y2 pc2 L2 st2 σ2 := by
  cases h1 : ev y2 pc2 L2 st2 σ2 with
  | some r => exact ev_iff.mpr ((h r).mpr (ev_iff.mp h1))
  | none =>
    cases h2 : ev y pc L st σ with
    | none => rfl
    | some r =>
      have h3 := ev_iff.mpr ((h r).mp (ev_iff.mp h2))
      rw [h1] at h3
      cases h3
theorem ev_go {y pc : Nat} {L st : List AV} {σ : aM} {i : Instr} {pc' : Nat} {L' st' : List AV} {σ' : aM} (hd : fetch y pc = some i) (hs : stp y i pc L st σ = go1 pc' L' st' σ') : ev y pc L st σ = ev y pc' L' st' σ' := by
  refine ev_ext fun r => ⟨?_, ?_⟩
  · rintro ⟨n, h⟩
    cases n with
    | zero => cases h
    | succ n =>
      rw [runF, hd] at h
      dsimp only at h
      rw [hs] at h
      exact ⟨n, h⟩
  · rintro ⟨n, h⟩
    refine ⟨n + 1, ?_⟩
    rw [runF, hd]
    dsimp only
    rw [hs]
    exact h
theorem ev_ret {y pc : Nat} {L st : List AV} {σ : aM} {i : Instr} {r : Option AV × aM} (hd : fetch y pc = some i) (hs : stp y i pc L st σ = some (.inr (.inl r))) : ev y pc L st σ = some r := by
  refine ev_iff.mpr ⟨1, ?_⟩
  rw [runF, hd]
  dsimp only
  rw [hs]
/-- behind a call -/
noncomputable def evK (y pc : Nat) (L r : List AV) (q : Option (Option AV × aM)) : Option (Option AV × aM) := match q with
  | none => none
  | some (v, σ) => ev y pc L (v.toList ++ r) σ
theorem evK_i (y pc : Nat) (L r : List AV) (v : AV) (σ : aM) : evK y pc L r (some (some v, σ)) = ev y pc L (v :: r) σ := rfl
theorem evK_v (y pc : Nat) (L r : List AV) (σ : aM) : evK y pc L r (some (none, σ)) = ev y pc L r σ := rfl
theorem ev_call {y pc : Nat} {L st : List AV} {σ : aM} {i : Instr} {y' : Nat} {as : List AV} {pc' : Nat} {L' r : List AV} {L0 : List AV} (hd : fetch y pc = some i) (hs : stp y i pc L st σ = some (.inr (.inr (y', as, (pc', L', r, σ))))) (h0 : lay0 y' as = L0) : ev y pc L st σ = evK y pc' L' r (ev y' 0 L0 [] σ) := by
  subst h0
  have key : ∀ q, ev y pc L st σ = some q ↔ evK y pc' L' r (ev y' 0 (lay0 y' as) [] σ) = some q := by
    intro q
    constructor
    · intro h
      obtain ⟨n, h⟩ := ev_iff.mp h
      cases n with
      | zero => cases h
      | succ n =>
        rw [runF, hd] at h
        dsimp only at h
        rw [hs] at h
        dsimp only at h
        cases hc : runF n y' (0, lay0 y' as, [], σ) with
        | none => rw [hc] at h; cases h
        | some p =>
          rw [hc] at h
          rw [ev_iff.mpr ⟨n, hc⟩]
          exact ev_iff.mpr ⟨n, h⟩
    · intro h
      cases hc : ev y' 0 (lay0 y' as) [] σ with
      | none => rw [hc] at h; cases h
      | some p =>
        rw [hc] at h
        obtain ⟨v, σ''⟩ := p
        obtain ⟨n, h⟩ := ev_iff.mp h
        obtain ⟨k, hk⟩ := ev_iff.mp hc
        refine ev_iff.mpr ⟨max n k + 1, ?_⟩
        rw [runF, hd]
        dsimp only
        rw [hs]
        dsimp only
        rw [runF_le (Nat.le_max_right n k) hk]
        exact runF_le (Nat.le_max_left n k) h
  cases h1 : evK y pc' L' r (ev y' 0 (lay0 y' as) [] σ) with
  | some q => exact (key q).mpr h1
  | none =>
    cases h2 : ev y pc L st σ with
    | none => rfl
    | some q => rw [(key q).mp h2] at h1; cases h1
