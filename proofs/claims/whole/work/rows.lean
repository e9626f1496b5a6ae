section
-- ===== PART A: goes FIRST, ahead of the names: the tables' words, and 'selects' of the private methods out of them =====
/-- a private method of a class that the tables say can be made, by its rows of tables_1 -/
def lw_okq (q : MethodName × Nat) : Prop := (q.1.cls ≠ "java/lang/invoke/MethodHandle" ∧ q.1.cls ≠ "java/lang/invoke/VarHandle") ∧ Cond.instantiable q.1.cls q.2 ∈ tables_1 ∧ Cond.privateMethod q.1 ∈ tables_1 ∧ Cond.instanceMethod q.1 ∈ tables_1
theorem lw_p0 : lw_okq (⟨"UncrossedBook", "refuse", "(I)I"⟩, 10) := ⟨⟨by decide +kernel, by decide +kernel⟩, List.mem_of_getElem? (i := 15) (by decide +kernel), List.mem_of_getElem? (i := 322) (by decide +kernel), List.mem_of_getElem? (i := 323) (by decide +kernel)⟩
theorem lw_p1 : lw_okq (⟨"UncrossedBook", "reasonAgainstRow", "(I)I"⟩, 10) := ⟨⟨by decide +kernel, by decide +kernel⟩, List.mem_of_getElem? (i := 15) (by decide +kernel), List.mem_of_getElem? (i := 341) (by decide +kernel), List.mem_of_getElem? (i := 342) (by decide +kernel)⟩
theorem lw_p2 : lw_okq (⟨"UncrossedBook", "reasonAgainstComer", "(IIZ)I"⟩, 10) := ⟨⟨by decide +kernel, by decide +kernel⟩, List.mem_of_getElem? (i := 15) (by decide +kernel), List.mem_of_getElem? (i := 438) (by decide +kernel), List.mem_of_getElem? (i := 439) (by decide +kernel)⟩
theorem lw_p3 : lw_okq (⟨"UncrossedBook$Desk", "enter", "(LUncrossedBook$Order;)V"⟩, 2) := ⟨⟨by decide +kernel, by decide +kernel⟩, List.mem_of_getElem? (i := 25) (by decide +kernel), List.mem_of_getElem? (i := 471) (by decide +kernel), List.mem_of_getElem? (i := 472) (by decide +kernel)⟩
theorem lw_p4 : lw_okq (⟨"UncrossedBook$Desk", "goIn", "(LUncrossedBook$Order;I)V"⟩, 2) := ⟨⟨by decide +kernel, by decide +kernel⟩, List.mem_of_getElem? (i := 25) (by decide +kernel), List.mem_of_getElem? (i := 475) (by decide +kernel), List.mem_of_getElem? (i := 476) (by decide +kernel)⟩
theorem lw_p5 : lw_okq (⟨"UncrossedBook$Desk", "meetOwn", "(LUncrossedBook$Order;LUncrossedBook$Order;)V"⟩, 2) := ⟨⟨by decide +kernel, by decide +kernel⟩, List.mem_of_getElem? (i := 25) (by decide +kernel), List.mem_of_getElem? (i := 486) (by decide +kernel), List.mem_of_getElem? (i := 487) (by decide +kernel)⟩
theorem lw_p6 : lw_okq (⟨"UncrossedBook$Desk", "meet", "(LUncrossedBook$Order;LUncrossedBook$Order;)V"⟩, 2) := ⟨⟨by decide +kernel, by decide +kernel⟩, List.mem_of_getElem? (i := 25) (by decide +kernel), List.mem_of_getElem? (i := 498) (by decide +kernel), List.mem_of_getElem? (i := 499) (by decide +kernel)⟩
theorem lw_p7 : lw_okq (⟨"UncrossedBook$Desk", "tradeAway", "(LUncrossedBook$Order;LUncrossedBook$Order;II)V"⟩, 2) := ⟨⟨by decide +kernel, by decide +kernel⟩, List.mem_of_getElem? (i := 25) (by decide +kernel), List.mem_of_getElem? (i := 503) (by decide +kernel), List.mem_of_getElem? (i := 504) (by decide +kernel)⟩
theorem lw_p8 : lw_okq (⟨"UncrossedBook$Desk", "comeRound", "(LUncrossedBook$Order;I)V"⟩, 2) := ⟨⟨by decide +kernel, by decide +kernel⟩, List.mem_of_getElem? (i := 25) (by decide +kernel), List.mem_of_getElem? (i := 515) (by decide +kernel), List.mem_of_getElem? (i := 516) (by decide +kernel)⟩
theorem lw_p9 : lw_okq (⟨"UncrossedBook$Desk", "tryAtOnce", "(LUncrossedBook$Order;I)V"⟩, 2) := ⟨⟨by decide +kernel, by decide +kernel⟩, List.mem_of_getElem? (i := 25) (by decide +kernel), List.mem_of_getElem? (i := 521) (by decide +kernel), List.mem_of_getElem? (i := 522) (by decide +kernel)⟩
theorem lw_p10 : lw_okq (⟨"UncrossedBook$Desk", "thereIsEnoughFor", "(LUncrossedBook$Order;)Z"⟩, 2) := ⟨⟨by decide +kernel, by decide +kernel⟩, List.mem_of_getElem? (i := 25) (by decide +kernel), List.mem_of_getElem? (i := 525) (by decide +kernel), List.mem_of_getElem? (i := 526) (by decide +kernel)⟩
theorem lw_p11 : lw_okq (⟨"UncrossedBook$Desk", "wakeStops", "()V"⟩, 2) := ⟨⟨by decide +kernel, by decide +kernel⟩, List.mem_of_getElem? (i := 25) (by decide +kernel), List.mem_of_getElem? (i := 535) (by decide +kernel), List.mem_of_getElem? (i := 536) (by decide +kernel)⟩
theorem lw_p12 : lw_okq (⟨"UncrossedBook$Desk", "firstReachedStop", "()LUncrossedBook$Order;"⟩, 2) := ⟨⟨by decide +kernel, by decide +kernel⟩, List.mem_of_getElem? (i := 25) (by decide +kernel), List.mem_of_getElem? (i := 539) (by decide +kernel), List.mem_of_getElem? (i := 540) (by decide +kernel)⟩
theorem lw_p13 : lw_okq (⟨"UncrossedBook$Desk", "isReached", "(LUncrossedBook$Order;)Z"⟩, 2) := ⟨⟨by decide +kernel, by decide +kernel⟩, List.mem_of_getElem? (i := 25) (by decide +kernel), List.mem_of_getElem? (i := 543) (by decide +kernel), List.mem_of_getElem? (i := 544) (by decide +kernel)⟩
theorem lw_p14 : lw_okq (⟨"UncrossedBook$TextReader", "takeItem", "(LUncrossedBook$Shelf;)V"⟩, 8) := ⟨⟨by decide +kernel, by decide +kernel⟩, List.mem_of_getElem? (i := 221) (by decide +kernel), List.mem_of_getElem? (i := 578) (by decide +kernel), List.mem_of_getElem? (i := 579) (by decide +kernel)⟩
theorem lw_p15 : lw_okq (⟨"UncrossedBook$TextReader", "takeBetween", "(LUncrossedBook$Shelf;II)I"⟩, 8) := ⟨⟨by decide +kernel, by decide +kernel⟩, List.mem_of_getElem? (i := 221) (by decide +kernel), List.mem_of_getElem? (i := 582) (by decide +kernel), List.mem_of_getElem? (i := 583) (by decide +kernel)⟩
def lw_privs_1 : List (MethodName × Nat) := [(⟨"UncrossedBook", "refuse", "(I)I"⟩, 10), (⟨"UncrossedBook", "reasonAgainstRow", "(I)I"⟩, 10), (⟨"UncrossedBook", "reasonAgainstComer", "(IIZ)I"⟩, 10), (⟨"UncrossedBook$Desk", "enter", "(LUncrossedBook$Order;)V"⟩, 2), (⟨"UncrossedBook$Desk", "goIn", "(LUncrossedBook$Order;I)V"⟩, 2), (⟨"UncrossedBook$Desk", "meetOwn", "(LUncrossedBook$Order;LUncrossedBook$Order;)V"⟩, 2), (⟨"UncrossedBook$Desk", "meet", "(LUncrossedBook$Order;LUncrossedBook$Order;)V"⟩, 2), (⟨"UncrossedBook$Desk", "tradeAway", "(LUncrossedBook$Order;LUncrossedBook$Order;II)V"⟩, 2), (⟨"UncrossedBook$Desk", "comeRound", "(LUncrossedBook$Order;I)V"⟩, 2), (⟨"UncrossedBook$Desk", "tryAtOnce", "(LUncrossedBook$Order;I)V"⟩, 2), (⟨"UncrossedBook$Desk", "thereIsEnoughFor", "(LUncrossedBook$Order;)Z"⟩, 2), (⟨"UncrossedBook$Desk", "wakeStops", "()V"⟩, 2), (⟨"UncrossedBook$Desk", "firstReachedStop", "()LUncrossedBook$Order;"⟩, 2), (⟨"UncrossedBook$Desk", "isReached", "(LUncrossedBook$Order;)Z"⟩, 2), (⟨"UncrossedBook$TextReader", "takeItem", "(LUncrossedBook$Shelf;)V"⟩, 8), (⟨"UncrossedBook$TextReader", "takeBetween", "(LUncrossedBook$Shelf;II)I"⟩, 8)]
theorem lw_r1 : ∀ q ∈ lw_privs_1, lw_okq q := List.forall_mem_cons.mpr ⟨lw_p0, List.forall_mem_cons.mpr ⟨lw_p1, List.forall_mem_cons.mpr ⟨lw_p2, List.forall_mem_cons.mpr ⟨lw_p3, List.forall_mem_cons.mpr ⟨lw_p4, List.forall_mem_cons.mpr ⟨lw_p5, List.forall_mem_cons.mpr ⟨lw_p6, List.forall_mem_cons.mpr ⟨lw_p7, List.forall_mem_cons.mpr ⟨lw_p8, List.forall_mem_cons.mpr ⟨lw_p9, List.forall_mem_cons.mpr ⟨lw_p10, List.forall_mem_cons.mpr ⟨lw_p11, List.forall_mem_cons.mpr ⟨lw_p12, List.forall_mem_cons.mpr ⟨lw_p13, List.forall_mem_cons.mpr ⟨lw_p14, List.forall_mem_cons.mpr ⟨lw_p15, fun _ h => absurd h List.not_mem_nil⟩⟩⟩⟩⟩⟩⟩⟩⟩⟩⟩⟩⟩⟩⟩⟩
theorem lw_p16 : lw_okq (⟨"UncrossedBook$TextReader", "signAt", "(LUncrossedBook$Shelf;)I"⟩, 8) := ⟨⟨by decide +kernel, by decide +kernel⟩, List.mem_of_getElem? (i := 221) (by decide +kernel), List.mem_of_getElem? (i := 586) (by decide +kernel), List.mem_of_getElem? (i := 587) (by decide +kernel)⟩
theorem lw_p17 : lw_okq (⟨"UncrossedBook$TextReader", "takeSign", "(LUncrossedBook$Shelf;I)V"⟩, 8) := ⟨⟨by decide +kernel, by decide +kernel⟩, List.mem_of_getElem? (i := 221) (by decide +kernel), List.mem_of_getElem? (i := 594) (by decide +kernel), List.mem_of_getElem? (i := 595) (by decide +kernel)⟩
theorem lw_p18 : lw_okq (⟨"UncrossedBook$TextReader", "takeNumber", "(LUncrossedBook$Shelf;)I"⟩, 8) := ⟨⟨by decide +kernel, by decide +kernel⟩, List.mem_of_getElem? (i := 221) (by decide +kernel), List.mem_of_getElem? (i := 598) (by decide +kernel), List.mem_of_getElem? (i := 599) (by decide +kernel)⟩
theorem lw_p19 : lw_okq (⟨"UncrossedBook$TextReader", "isDigitNext", "(LUncrossedBook$Shelf;)Z"⟩, 8) := ⟨⟨by decide +kernel, by decide +kernel⟩, List.mem_of_getElem? (i := 221) (by decide +kernel), List.mem_of_getElem? (i := 602) (by decide +kernel), List.mem_of_getElem? (i := 603) (by decide +kernel)⟩
theorem lw_p20 : lw_okq (⟨"UncrossedBook$Auction", "gather", "(LUncrossedBook$Book;)I"⟩, 4) := ⟨⟨by decide +kernel, by decide +kernel⟩, List.mem_of_getElem? (i := 183) (by decide +kernel), List.mem_of_getElem? (i := 639) (by decide +kernel), List.mem_of_getElem? (i := 640) (by decide +kernel)⟩
theorem lw_p21 : lw_okq (⟨"UncrossedBook", "refuseApart", "(I)I"⟩, 10) := ⟨⟨by decide +kernel, by decide +kernel⟩, List.mem_of_getElem? (i := 15) (by decide +kernel), List.mem_of_getElem? (i := 675) (by decide +kernel), List.mem_of_getElem? (i := 676) (by decide +kernel)⟩
theorem lw_p22 : lw_okq (⟨"UncrossedBook$Ranking", "placeIn", "(LUncrossedBook$Order;I)V"⟩, 3) := ⟨⟨by decide +kernel, by decide +kernel⟩, List.mem_of_getElem? (i := 204) (by decide +kernel), List.mem_of_getElem? (i := 686) (by decide +kernel), List.mem_of_getElem? (i := 687) (by decide +kernel)⟩
theorem lw_p23 : lw_okq (⟨"UncrossedBookModel", "refused", "(I)I"⟩, 23) := ⟨⟨by decide +kernel, by decide +kernel⟩, List.mem_of_getElem? (i := 802) (by decide +kernel), List.mem_of_getElem? (i := 888) (by decide +kernel), List.mem_of_getElem? (i := 889) (by decide +kernel)⟩
theorem lw_p24 : lw_okq (⟨"UncrossedBookModel", "wanted", "(I)I"⟩, 23) := ⟨⟨by decide +kernel, by decide +kernel⟩, List.mem_of_getElem? (i := 802) (by decide +kernel), List.mem_of_getElem? (i := 896) (by decide +kernel), List.mem_of_getElem? (i := 897) (by decide +kernel)⟩
theorem lw_p25 : lw_okq (⟨"UncrossedBookModel", "isRow", "(I)Z"⟩, 23) := ⟨⟨by decide +kernel, by decide +kernel⟩, List.mem_of_getElem? (i := 802) (by decide +kernel), List.mem_of_getElem? (i := 908) (by decide +kernel), List.mem_of_getElem? (i := 909) (by decide +kernel)⟩
theorem lw_p26 : lw_okq (⟨"UncrossedBookModel", "isOrder", "(I)Z"⟩, 23) := ⟨⟨by decide +kernel, by decide +kernel⟩, List.mem_of_getElem? (i := 802) (by decide +kernel), List.mem_of_getElem? (i := 916) (by decide +kernel), List.mem_of_getElem? (i := 917) (by decide +kernel)⟩
theorem lw_p27 : lw_okq (⟨"UncrossedBookModel", "wantedOrder", "(IIZ)I"⟩, 23) := ⟨⟨by decide +kernel, by decide +kernel⟩, List.mem_of_getElem? (i := 802) (by decide +kernel), List.mem_of_getElem? (i := 931) (by decide +kernel), List.mem_of_getElem? (i := 932) (by decide +kernel)⟩
theorem lw_p28 : lw_okq (⟨"UncrossedBookModel", "comes", "(IIIIII)I"⟩, 23) := ⟨⟨by decide +kernel, by decide +kernel⟩, List.mem_of_getElem? (i := 802) (by decide +kernel), List.mem_of_getElem? (i := 941) (by decide +kernel), List.mem_of_getElem? (i := 942) (by decide +kernel)⟩
theorem lw_p29 : lw_okq (⟨"UncrossedBookModel", "limitComes", "(II)V"⟩, 23) := ⟨⟨by decide +kernel, by decide +kernel⟩, List.mem_of_getElem? (i := 802) (by decide +kernel), List.mem_of_getElem? (i := 945) (by decide +kernel), List.mem_of_getElem? (i := 946) (by decide +kernel)⟩
theorem lw_p30 : lw_okq (⟨"UncrossedBookModel", "rests", "(I)V"⟩, 23) := ⟨⟨by decide +kernel, by decide +kernel⟩, List.mem_of_getElem? (i := 802) (by decide +kernel), List.mem_of_getElem? (i := 949) (by decide +kernel), List.mem_of_getElem? (i := 950) (by decide +kernel)⟩
theorem lw_p31 : lw_okq (⟨"UncrossedBookModel", "nextTime", "()I"⟩, 23) := ⟨⟨by decide +kernel, by decide +kernel⟩, List.mem_of_getElem? (i := 802) (by decide +kernel), List.mem_of_getElem? (i := 953) (by decide +kernel), List.mem_of_getElem? (i := 954) (by decide +kernel)⟩
def lw_privs_2 : List (MethodName × Nat) := [(⟨"UncrossedBook$TextReader", "signAt", "(LUncrossedBook$Shelf;)I"⟩, 8), (⟨"UncrossedBook$TextReader", "takeSign", "(LUncrossedBook$Shelf;I)V"⟩, 8), (⟨"UncrossedBook$TextReader", "takeNumber", "(LUncrossedBook$Shelf;)I"⟩, 8), (⟨"UncrossedBook$TextReader", "isDigitNext", "(LUncrossedBook$Shelf;)Z"⟩, 8), (⟨"UncrossedBook$Auction", "gather", "(LUncrossedBook$Book;)I"⟩, 4), (⟨"UncrossedBook", "refuseApart", "(I)I"⟩, 10), (⟨"UncrossedBook$Ranking", "placeIn", "(LUncrossedBook$Order;I)V"⟩, 3), (⟨"UncrossedBookModel", "refused", "(I)I"⟩, 23), (⟨"UncrossedBookModel", "wanted", "(I)I"⟩, 23), (⟨"UncrossedBookModel", "isRow", "(I)Z"⟩, 23), (⟨"UncrossedBookModel", "isOrder", "(I)Z"⟩, 23), (⟨"UncrossedBookModel", "wantedOrder", "(IIZ)I"⟩, 23), (⟨"UncrossedBookModel", "comes", "(IIIIII)I"⟩, 23), (⟨"UncrossedBookModel", "limitComes", "(II)V"⟩, 23), (⟨"UncrossedBookModel", "rests", "(I)V"⟩, 23), (⟨"UncrossedBookModel", "nextTime", "()I"⟩, 23)]
theorem lw_r2 : ∀ q ∈ lw_privs_2, lw_okq q := List.forall_mem_cons.mpr ⟨lw_p16, List.forall_mem_cons.mpr ⟨lw_p17, List.forall_mem_cons.mpr ⟨lw_p18, List.forall_mem_cons.mpr ⟨lw_p19, List.forall_mem_cons.mpr ⟨lw_p20, List.forall_mem_cons.mpr ⟨lw_p21, List.forall_mem_cons.mpr ⟨lw_p22, List.forall_mem_cons.mpr ⟨lw_p23, List.forall_mem_cons.mpr ⟨lw_p24, List.forall_mem_cons.mpr ⟨lw_p25, List.forall_mem_cons.mpr ⟨lw_p26, List.forall_mem_cons.mpr ⟨lw_p27, List.forall_mem_cons.mpr ⟨lw_p28, List.forall_mem_cons.mpr ⟨lw_p29, List.forall_mem_cons.mpr ⟨lw_p30, List.forall_mem_cons.mpr ⟨lw_p31, fun _ h => absurd h List.not_mem_nil⟩⟩⟩⟩⟩⟩⟩⟩⟩⟩⟩⟩⟩⟩⟩⟩
theorem lw_p32 : lw_okq (⟨"UncrossedBookModel", "fresh", "(I)V"⟩, 23) := ⟨⟨by decide +kernel, by decide +kernel⟩, List.mem_of_getElem? (i := 802) (by decide +kernel), List.mem_of_getElem? (i := 957) (by decide +kernel), List.mem_of_getElem? (i := 958) (by decide +kernel)⟩
theorem lw_p33 : lw_okq (⟨"UncrossedBookModel", "isEnough", "(I)Z"⟩, 23) := ⟨⟨by decide +kernel, by decide +kernel⟩, List.mem_of_getElem? (i := 802) (by decide +kernel), List.mem_of_getElem? (i := 961) (by decide +kernel), List.mem_of_getElem? (i := 962) (by decide +kernel)⟩
theorem lw_p34 : lw_okq (⟨"UncrossedBookModel", "isRanked", "(II)Z"⟩, 23) := ⟨⟨by decide +kernel, by decide +kernel⟩, List.mem_of_getElem? (i := 802) (by decide +kernel), List.mem_of_getElem? (i := 965) (by decide +kernel), List.mem_of_getElem? (i := 966) (by decide +kernel)⟩
theorem lw_p35 : lw_okq (⟨"UncrossedBookModel", "priceOf", "(I)I"⟩, 23) := ⟨⟨by decide +kernel, by decide +kernel⟩, List.mem_of_getElem? (i := 802) (by decide +kernel), List.mem_of_getElem? (i := 969) (by decide +kernel), List.mem_of_getElem? (i := 970) (by decide +kernel)⟩
theorem lw_p36 : lw_okq (⟨"UncrossedBookModel", "doesRest", "(I)Z"⟩, 23) := ⟨⟨by decide +kernel, by decide +kernel⟩, List.mem_of_getElem? (i := 802) (by decide +kernel), List.mem_of_getElem? (i := 973) (by decide +kernel), List.mem_of_getElem? (i := 974) (by decide +kernel)⟩
theorem lw_p37 : lw_okq (⟨"UncrossedBookModel", "isLimit", "(I)Z"⟩, 23) := ⟨⟨by decide +kernel, by decide +kernel⟩, List.mem_of_getElem? (i := 802) (by decide +kernel), List.mem_of_getElem? (i := 977) (by decide +kernel), List.mem_of_getElem? (i := 978) (by decide +kernel)⟩
theorem lw_p38 : lw_okq (⟨"UncrossedBookModel", "bestPrice", "(I)I"⟩, 23) := ⟨⟨by decide +kernel, by decide +kernel⟩, List.mem_of_getElem? (i := 802) (by decide +kernel), List.mem_of_getElem? (i := 981) (by decide +kernel), List.mem_of_getElem? (i := 982) (by decide +kernel)⟩
theorem lw_p39 : lw_okq (⟨"UncrossedBookModel", "orderGoesIn", "(IIZ)V"⟩, 23) := ⟨⟨by decide +kernel, by decide +kernel⟩, List.mem_of_getElem? (i := 802) (by decide +kernel), List.mem_of_getElem? (i := 988) (by decide +kernel), List.mem_of_getElem? (i := 989) (by decide +kernel)⟩
theorem lw_p40 : lw_okq (⟨"UncrossedBookModel", "goesIn", "(IIIII)V"⟩, 23) := ⟨⟨by decide +kernel, by decide +kernel⟩, List.mem_of_getElem? (i := 802) (by decide +kernel), List.mem_of_getElem? (i := 992) (by decide +kernel), List.mem_of_getElem? (i := 993) (by decide +kernel)⟩
theorem lw_p41 : lw_okq (⟨"UncrossedBookModel", "firstOf", "(IZ)I"⟩, 23) := ⟨⟨by decide +kernel, by decide +kernel⟩, List.mem_of_getElem? (i := 802) (by decide +kernel), List.mem_of_getElem? (i := 996) (by decide +kernel), List.mem_of_getElem? (i := 997) (by decide +kernel)⟩
theorem lw_p42 : lw_okq (⟨"UncrossedBookModel", "isAheadOf", "(II)Z"⟩, 23) := ⟨⟨by decide +kernel, by decide +kernel⟩, List.mem_of_getElem? (i := 802) (by decide +kernel), List.mem_of_getElem? (i := 1000) (by decide +kernel), List.mem_of_getElem? (i := 1001) (by decide +kernel)⟩
theorem lw_p43 : lw_okq (⟨"UncrossedBookModel", "meets", "(I)V"⟩, 23) := ⟨⟨by decide +kernel, by decide +kernel⟩, List.mem_of_getElem? (i := 802) (by decide +kernel), List.mem_of_getElem? (i := 1004) (by decide +kernel), List.mem_of_getElem? (i := 1005) (by decide +kernel)⟩
theorem lw_p44 : lw_okq (⟨"UncrossedBookModel", "seenOf", "(I)I"⟩, 23) := ⟨⟨by decide +kernel, by decide +kernel⟩, List.mem_of_getElem? (i := 802) (by decide +kernel), List.mem_of_getElem? (i := 1008) (by decide +kernel), List.mem_of_getElem? (i := 1009) (by decide +kernel)⟩
theorem lw_p45 : lw_okq (⟨"UncrossedBookModel", "loses", "(II)V"⟩, 23) := ⟨⟨by decide +kernel, by decide +kernel⟩, List.mem_of_getElem? (i := 802) (by decide +kernel), List.mem_of_getElem? (i := 1012) (by decide +kernel), List.mem_of_getElem? (i := 1013) (by decide +kernel)⟩
theorem lw_p46 : lw_okq (⟨"UncrossedBookModel", "pays", "(III)V"⟩, 23) := ⟨⟨by decide +kernel, by decide +kernel⟩, List.mem_of_getElem? (i := 802) (by decide +kernel), List.mem_of_getElem? (i := 1016) (by decide +kernel), List.mem_of_getElem? (i := 1017) (by decide +kernel)⟩
theorem lw_p47 : lw_okq (⟨"UncrossedBookModel", "notes", "(IIII)V"⟩, 23) := ⟨⟨by decide +kernel, by decide +kernel⟩, List.mem_of_getElem? (i := 802) (by decide +kernel), List.mem_of_getElem? (i := 1020) (by decide +kernel), List.mem_of_getElem? (i := 1021) (by decide +kernel)⟩
def lw_privs_3 : List (MethodName × Nat) := [(⟨"UncrossedBookModel", "fresh", "(I)V"⟩, 23), (⟨"UncrossedBookModel", "isEnough", "(I)Z"⟩, 23), (⟨"UncrossedBookModel", "isRanked", "(II)Z"⟩, 23), (⟨"UncrossedBookModel", "priceOf", "(I)I"⟩, 23), (⟨"UncrossedBookModel", "doesRest", "(I)Z"⟩, 23), (⟨"UncrossedBookModel", "isLimit", "(I)Z"⟩, 23), (⟨"UncrossedBookModel", "bestPrice", "(I)I"⟩, 23), (⟨"UncrossedBookModel", "orderGoesIn", "(IIZ)V"⟩, 23), (⟨"UncrossedBookModel", "goesIn", "(IIIII)V"⟩, 23), (⟨"UncrossedBookModel", "firstOf", "(IZ)I"⟩, 23), (⟨"UncrossedBookModel", "isAheadOf", "(II)Z"⟩, 23), (⟨"UncrossedBookModel", "meets", "(I)V"⟩, 23), (⟨"UncrossedBookModel", "seenOf", "(I)I"⟩, 23), (⟨"UncrossedBookModel", "loses", "(II)V"⟩, 23), (⟨"UncrossedBookModel", "pays", "(III)V"⟩, 23), (⟨"UncrossedBookModel", "notes", "(IIII)V"⟩, 23)]
theorem lw_r3 : ∀ q ∈ lw_privs_3, lw_okq q := List.forall_mem_cons.mpr ⟨lw_p32, List.forall_mem_cons.mpr ⟨lw_p33, List.forall_mem_cons.mpr ⟨lw_p34, List.forall_mem_cons.mpr ⟨lw_p35, List.forall_mem_cons.mpr ⟨lw_p36, List.forall_mem_cons.mpr ⟨lw_p37, List.forall_mem_cons.mpr ⟨lw_p38, List.forall_mem_cons.mpr ⟨lw_p39, List.forall_mem_cons.mpr ⟨lw_p40, List.forall_mem_cons.mpr ⟨lw_p41, List.forall_mem_cons.mpr ⟨lw_p42, List.forall_mem_cons.mpr ⟨lw_p43, List.forall_mem_cons.mpr ⟨lw_p44, List.forall_mem_cons.mpr ⟨lw_p45, List.forall_mem_cons.mpr ⟨lw_p46, List.forall_mem_cons.mpr ⟨lw_p47, fun _ h => absurd h List.not_mem_nil⟩⟩⟩⟩⟩⟩⟩⟩⟩⟩⟩⟩⟩⟩⟩⟩
theorem lw_p48 : lw_okq (⟨"UncrossedBookModel", "stops", "()V"⟩, 23) := ⟨⟨by decide +kernel, by decide +kernel⟩, List.mem_of_getElem? (i := 802) (by decide +kernel), List.mem_of_getElem? (i := 1024) (by decide +kernel), List.mem_of_getElem? (i := 1025) (by decide +kernel)⟩
theorem lw_p49 : lw_okq (⟨"UncrossedBookModel", "isReached", "(I)Z"⟩, 23) := ⟨⟨by decide +kernel, by decide +kernel⟩, List.mem_of_getElem? (i := 802) (by decide +kernel), List.mem_of_getElem? (i := 1028) (by decide +kernel), List.mem_of_getElem? (i := 1029) (by decide +kernel)⟩
theorem lw_p50 : lw_okq (⟨"UncrossedBookModel", "goesThrough", "(Z)I"⟩, 23) := ⟨⟨by decide +kernel, by decide +kernel⟩, List.mem_of_getElem? (i := 802) (by decide +kernel), List.mem_of_getElem? (i := 1052) (by decide +kernel), List.mem_of_getElem? (i := 1053) (by decide +kernel)⟩
theorem lw_p51 : lw_okq (⟨"UncrossedBookModel", "item", "(Z)V"⟩, 23) := ⟨⟨by decide +kernel, by decide +kernel⟩, List.mem_of_getElem? (i := 802) (by decide +kernel), List.mem_of_getElem? (i := 1056) (by decide +kernel), List.mem_of_getElem? (i := 1057) (by decide +kernel)⟩
theorem lw_p52 : lw_okq (⟨"UncrossedBookModel", "one", "(II)I"⟩, 23) := ⟨⟨by decide +kernel, by decide +kernel⟩, List.mem_of_getElem? (i := 802) (by decide +kernel), List.mem_of_getElem? (i := 1060) (by decide +kernel), List.mem_of_getElem? (i := 1061) (by decide +kernel)⟩
theorem lw_p53 : lw_okq (⟨"UncrossedBookModel", "here", "()I"⟩, 23) := ⟨⟨by decide +kernel, by decide +kernel⟩, List.mem_of_getElem? (i := 802) (by decide +kernel), List.mem_of_getElem? (i := 1064) (by decide +kernel), List.mem_of_getElem? (i := 1065) (by decide +kernel)⟩
theorem lw_p54 : lw_okq (⟨"UncrossedBookModel", "fails", "(I)V"⟩, 23) := ⟨⟨by decide +kernel, by decide +kernel⟩, List.mem_of_getElem? (i := 802) (by decide +kernel), List.mem_of_getElem? (i := 1068) (by decide +kernel), List.mem_of_getElem? (i := 1069) (by decide +kernel)⟩
theorem lw_p55 : lw_okq (⟨"UncrossedBookModel", "number", "()I"⟩, 23) := ⟨⟨by decide +kernel, by decide +kernel⟩, List.mem_of_getElem? (i := 802) (by decide +kernel), List.mem_of_getElem? (i := 1072) (by decide +kernel), List.mem_of_getElem? (i := 1073) (by decide +kernel)⟩
theorem lw_p56 : lw_okq (⟨"UncrossedBookModel", "isDigit", "()Z"⟩, 23) := ⟨⟨by decide +kernel, by decide +kernel⟩, List.mem_of_getElem? (i := 802) (by decide +kernel), List.mem_of_getElem? (i := 1076) (by decide +kernel), List.mem_of_getElem? (i := 1077) (by decide +kernel)⟩
theorem lw_p57 : lw_okq (⟨"UncrossedBookModel", "isThere", "(I)Z"⟩, 23) := ⟨⟨by decide +kernel, by decide +kernel⟩, List.mem_of_getElem? (i := 802) (by decide +kernel), List.mem_of_getElem? (i := 1088) (by decide +kernel), List.mem_of_getElem? (i := 1089) (by decide +kernel)⟩
theorem lw_p58 : lw_okq (⟨"UncrossedBookModel", "crossPrice", "()I"⟩, 23) := ⟨⟨by decide +kernel, by decide +kernel⟩, List.mem_of_getElem? (i := 802) (by decide +kernel), List.mem_of_getElem? (i := 1104) (by decide +kernel), List.mem_of_getElem? (i := 1105) (by decide +kernel)⟩
theorem lw_p59 : lw_okq (⟨"UncrossedBookModel", "volumeAt", "(I)I"⟩, 23) := ⟨⟨by decide +kernel, by decide +kernel⟩, List.mem_of_getElem? (i := 802) (by decide +kernel), List.mem_of_getElem? (i := 1108) (by decide +kernel), List.mem_of_getElem? (i := 1109) (by decide +kernel)⟩
theorem lw_p60 : lw_okq (⟨"UncrossedBookModel", "crosses", "(II)V"⟩, 23) := ⟨⟨by decide +kernel, by decide +kernel⟩, List.mem_of_getElem? (i := 802) (by decide +kernel), List.mem_of_getElem? (i := 1115) (by decide +kernel), List.mem_of_getElem? (i := 1116) (by decide +kernel)⟩
theorem lw_p61 : lw_okq (⟨"UncrossedBookModel", "crossed", "(II)V"⟩, 23) := ⟨⟨by decide +kernel, by decide +kernel⟩, List.mem_of_getElem? (i := 802) (by decide +kernel), List.mem_of_getElem? (i := 1119) (by decide +kernel), List.mem_of_getElem? (i := 1120) (by decide +kernel)⟩
theorem lw_p62 : lw_okq (⟨"UncrossedBookModel", "manyIn", "(I)I"⟩, 23) := ⟨⟨by decide +kernel, by decide +kernel⟩, List.mem_of_getElem? (i := 802) (by decide +kernel), List.mem_of_getElem? (i := 1127) (by decide +kernel), List.mem_of_getElem? (i := 1128) (by decide +kernel)⟩
theorem lw_p63 : lw_okq (⟨"UncrossedBookModel", "pricedAs", "(I)I"⟩, 23) := ⟨⟨by decide +kernel, by decide +kernel⟩, List.mem_of_getElem? (i := 802) (by decide +kernel), List.mem_of_getElem? (i := 1139) (by decide +kernel), List.mem_of_getElem? (i := 1140) (by decide +kernel)⟩
def lw_privs_4 : List (MethodName × Nat) := [(⟨"UncrossedBookModel", "stops", "()V"⟩, 23), (⟨"UncrossedBookModel", "isReached", "(I)Z"⟩, 23), (⟨"UncrossedBookModel", "goesThrough", "(Z)I"⟩, 23), (⟨"UncrossedBookModel", "item", "(Z)V"⟩, 23), (⟨"UncrossedBookModel", "one", "(II)I"⟩, 23), (⟨"UncrossedBookModel", "here", "()I"⟩, 23), (⟨"UncrossedBookModel", "fails", "(I)V"⟩, 23), (⟨"UncrossedBookModel", "number", "()I"⟩, 23), (⟨"UncrossedBookModel", "isDigit", "()Z"⟩, 23), (⟨"UncrossedBookModel", "isThere", "(I)Z"⟩, 23), (⟨"UncrossedBookModel", "crossPrice", "()I"⟩, 23), (⟨"UncrossedBookModel", "volumeAt", "(I)I"⟩, 23), (⟨"UncrossedBookModel", "crosses", "(II)V"⟩, 23), (⟨"UncrossedBookModel", "crossed", "(II)V"⟩, 23), (⟨"UncrossedBookModel", "manyIn", "(I)I"⟩, 23), (⟨"UncrossedBookModel", "pricedAs", "(I)I"⟩, 23)]
theorem lw_r4 : ∀ q ∈ lw_privs_4, lw_okq q := List.forall_mem_cons.mpr ⟨lw_p48, List.forall_mem_cons.mpr ⟨lw_p49, List.forall_mem_cons.mpr ⟨lw_p50, List.forall_mem_cons.mpr ⟨lw_p51, List.forall_mem_cons.mpr ⟨lw_p52, List.forall_mem_cons.mpr ⟨lw_p53, List.forall_mem_cons.mpr ⟨lw_p54, List.forall_mem_cons.mpr ⟨lw_p55, List.forall_mem_cons.mpr ⟨lw_p56, List.forall_mem_cons.mpr ⟨lw_p57, List.forall_mem_cons.mpr ⟨lw_p58, List.forall_mem_cons.mpr ⟨lw_p59, List.forall_mem_cons.mpr ⟨lw_p60, List.forall_mem_cons.mpr ⟨lw_p61, List.forall_mem_cons.mpr ⟨lw_p62, List.forall_mem_cons.mpr ⟨lw_p63, fun _ h => absurd h List.not_mem_nil⟩⟩⟩⟩⟩⟩⟩⟩⟩⟩⟩⟩⟩⟩⟩⟩
theorem lw_p64 : lw_okq (⟨"UncrossedBookModel", "ranked", "(II)I"⟩, 23) := ⟨⟨by decide +kernel, by decide +kernel⟩, List.mem_of_getElem? (i := 802) (by decide +kernel), List.mem_of_getElem? (i := 1151) (by decide +kernel), List.mem_of_getElem? (i := 1152) (by decide +kernel)⟩
theorem lw_p65 : lw_okq (⟨"UncrossedBookModel", "aheadMany", "(I)I"⟩, 23) := ⟨⟨by decide +kernel, by decide +kernel⟩, List.mem_of_getElem? (i := 802) (by decide +kernel), List.mem_of_getElem? (i := 1155) (by decide +kernel), List.mem_of_getElem? (i := 1156) (by decide +kernel)⟩
theorem lw_p66 : lw_okq (⟨"UncrossedBookModel", "refusedBelow", "(I)I"⟩, 23) := ⟨⟨by decide +kernel, by decide +kernel⟩, List.mem_of_getElem? (i := 802) (by decide +kernel), List.mem_of_getElem? (i := 1159) (by decide +kernel), List.mem_of_getElem? (i := 1160) (by decide +kernel)⟩
theorem lw_p67 : lw_okq (⟨"UncrossedBookModel", "kept", "()I"⟩, 23) := ⟨⟨by decide +kernel, by decide +kernel⟩, List.mem_of_getElem? (i := 802) (by decide +kernel), List.mem_of_getElem? (i := 1184) (by decide +kernel), List.mem_of_getElem? (i := 1185) (by decide +kernel)⟩
theorem lw_p68 : lw_okq (⟨"UncrossedBookModel", "drawn", "(I)I"⟩, 23) := ⟨⟨by decide +kernel, by decide +kernel⟩, List.mem_of_getElem? (i := 802) (by decide +kernel), List.mem_of_getElem? (i := 1206) (by decide +kernel), List.mem_of_getElem? (i := 1207) (by decide +kernel)⟩
def lw_privs_5 : List (MethodName × Nat) := [(⟨"UncrossedBookModel", "ranked", "(II)I"⟩, 23), (⟨"UncrossedBookModel", "aheadMany", "(I)I"⟩, 23), (⟨"UncrossedBookModel", "refusedBelow", "(I)I"⟩, 23), (⟨"UncrossedBookModel", "kept", "()I"⟩, 23), (⟨"UncrossedBookModel", "drawn", "(I)I"⟩, 23)]
theorem lw_r5 : ∀ q ∈ lw_privs_5, lw_okq q := List.forall_mem_cons.mpr ⟨lw_p64, List.forall_mem_cons.mpr ⟨lw_p65, List.forall_mem_cons.mpr ⟨lw_p66, List.forall_mem_cons.mpr ⟨lw_p67, List.forall_mem_cons.mpr ⟨lw_p68, fun _ h => absurd h List.not_mem_nil⟩⟩⟩⟩⟩
def lw_privs : List (MethodName × Nat) := lw_privs_1 ++ (lw_privs_2 ++ (lw_privs_3 ++ (lw_privs_4 ++ (lw_privs_5))))
def lw_tbl : List Cond := k2_sels lw_privs ++ tables_1
theorem lw_privs_ok : ∀ q ∈ lw_privs, lw_okq q := by
  show ∀ q ∈ lw_privs_1 ++ (lw_privs_2 ++ (lw_privs_3 ++ (lw_privs_4 ++ (lw_privs_5)))), lw_okq q
  exact List.forall_mem_append.mpr ⟨lw_r1, List.forall_mem_append.mpr ⟨lw_r2, List.forall_mem_append.mpr ⟨lw_r3, List.forall_mem_append.mpr ⟨lw_r4, lw_r5⟩⟩⟩⟩
end
section
/-! THE SMALL MACHINE: values, memory by families of cells, one step of an instruction, runs with fuel, and what a run comes to -/
abbrev AV : Type := Int ⊕ (Int64 ⊕ (Option (Nat × Int) ⊕ Unit))
abbrev aI (a : Int) : AV := .inl a
abbrev aJ (x : Int64) : AV := .inr (.inl x)
abbrev aQ (q : Option (Nat × Int)) : AV := .inr (.inr (.inl q))
abbrev aR (t : Nat) (i : Int) : AV := .inr (.inr (.inl (some (t, i))))
abbrev aN : AV := .inr (.inr (.inl none))
abbrev aU : AV := .inr (.inr (.inr ()))
/-- wrap-around -/
def wr (a : Int) : Int := (Int32.ofInt a).toInt
/-- ints by family, cell, place; longs; the references of the one row that changes -/
abbrev aM : Type := (Nat → Int → Int → Int) × ((Nat → Int → Int → Int64) × (Int → Option (Nat × Int)))
def gI (σ : aM) (t : Nat) (i j : Int) : Int := σ.1 t i j
def gL (σ : aM) (t : Nat) (i j : Int) : Int64 := σ.2.1 t i j
def gR (σ : aM) (j : Int) : Option (Nat × Int) := σ.2.2 j
def uI (σ : aM) (t : Nat) (i j v : Int) : aM := (fun t' i' j' => if t' = t ∧ i' = i ∧ j' = j then v else gI σ t' i' j', σ.2)
def uL (σ : aM) (t : Nat) (i j : Int) (v : Int64) : aM := (σ.1, fun t' i' j' => if t' = t ∧ i' = i ∧ j' = j then v else gL σ t' i' j', σ.2.2)
def uR (σ : aM) (j : Int) (q : Option (Nat × Int)) : aM := (σ.1, σ.2.1, fun j' => if j' = j then q else gR σ j')
/-- n ints from one row, from a on, to another's places from b on (as they were ahead); longs likewise -/
def kI (σ : aM) (t : Nat) (i a : Int) (t2 : Nat) (i2 b n : Int) : aM := (fun t' i' j' => if t' = t2 ∧ i' = i2 ∧ b ≤ j' ∧ j' < b + n then gI σ t i (j' - b + a) else gI σ t' i' j', σ.2)
def kL (σ : aM) (t : Nat) (i a : Int) (t2 : Nat) (i2 b n : Int) : aM := (σ.1, fun t' i' j' => if t' = t2 ∧ i' = i2 ∧ b ≤ j' ∧ j' < b + n then gL σ t i (j' - b + a) else gL σ t' i' j', σ.2.2)
/-! families: class (99: a row), kind of row (0 int, 1 long, 2 boolean, 3 shelves, 4 orders, 5 the line), length, how many -/
def fams : List (Nat × Nat × Nat × Nat) := [(8, 8, 0, 1), (99, 3, 8, 1), (5, 8, 0, 8), (99, 1, 160, 8), (99, 0, 8, 1), (2, 8, 0, 1), (1, 8, 0, 2), (99, 4, 60, 2), (3, 8, 0, 121), (7, 8, 0, 2), (99, 0, 800, 2), (99, 0, 8, 2), (99, 0, 8, 2), (0, 8, 0, 1), (99, 0, 1000, 1), (99, 0, 1000, 1), (4, 8, 0, 1), (99, 5, 60, 1), (99, 0, 60, 1), (6, 8, 0, 1), (99, 0, 27, 1), (99, 0, 27, 1), (99, 0, 27, 1), (99, 0, 27, 1), (99, 0, 27, 1), (9, 8, 0, 1), (99, 0, 1423, 1), (99, 0, 1423, 1), (99, 0, 8, 1), (99, 0, 8, 1), (99, 0, 8, 1), (99, 1, 1280, 1), (99, 1, 160, 1), (99, 2, 60, 1), (99, 0, 0, 1)]
def fam (t : Nat) : Nat × Nat × Nat × Nat := fams.getD t (98, 9, 0, 0)
def fC (t : Nat) : Nat := (fam t).1
def fT (t : Nat) : Nat := (fam t).2.1
def fL (t : Nat) : Nat := (fam t).2.2.1
def fN (t : Nat) : Nat := (fam t).2.2.2
/-- the script's length stands at its place -1 -/
def aLen (σ : aM) (t : Nat) : Int := if t = 34 then gI σ 34 0 (-1) else (fL t : Int)
/-- a class's slots: 0 int, 1 boolean, 2 a reference that stays -/
def kinds : List (List Nat) := [[2, 2, 0, 0], [2, 2, 0, 0, 0, 0, 0], [2, 2], [0, 0, 0, 0, 0, 0, 0, 0, 0, 0, 0], [2, 2, 0], [2, 0, 0, 0], [2, 2, 2, 2, 2, 0, 0, 0], [2, 2, 2, 0, 0], [2, 2, 2, 2, 2, 2, 2, 2, 1, 0], [0, 2, 2, 1, 2, 2, 2, 2, 2, 0, 0, 0, 0, 1, 1, 0, 0, 1, 0, 0, 0, 0, 2]]
def sK (c k : Nat) : Nat := (kinds.getD c []).getD k 9
/-- where such a reference leads: family, cell (0: the number; 1: the owner's own) -/
def crT : List (List (Nat × Nat × Nat)) := [[(1, 0, 0), (4, 0, 0), (5, 0, 0), (6, 0, 0), (13, 0, 0), (16, 0, 0), (19, 0, 0), (6, 1, 0)], [], [(3, 0, 1)], [], [], [(6, 0, 0), (8, 120, 0)], [(7, 0, 1), (9, 0, 1)], [], [], [(10, 0, 1), (11, 0, 1), (12, 0, 1)], [], [], [], [(14, 0, 0), (15, 0, 0)], [], [], [(17, 0, 0), (18, 0, 0)], [], [], [(20, 0, 0), (21, 0, 0), (22, 0, 0), (23, 0, 0), (24, 0, 0)], [], [], [], [], [], [(0, 0, 0), (26, 0, 0), (27, 0, 0), (0, 0, 0), (28, 0, 0), (29, 0, 0), (30, 0, 0), (31, 0, 0), (32, 0, 0), (0, 0, 0), (0, 0, 0), (0, 0, 0), (0, 0, 0), (0, 0, 0), (0, 0, 0), (0, 0, 0), (0, 0, 0), (0, 0, 0), (0, 0, 0), (0, 0, 0), (0, 0, 0), (0, 0, 0), (33, 0, 0)], [], [], [], [], [], [], [], [], []]
def cref (t : Nat) (i : Int) (k : Nat) : Option (Nat × Int) := match (crT.getD t []).getD k (0, 0, 0) with
  | (t', c, 0) => some (t', (c : Int))
  | (t', _, _ + 1) => some (t', i)
/-- what a row of references holds -/
def aref (σ : aM) (t : Nat) (i j : Int) : Option (Nat × Int) := match fT t with
  | 3 => some (2, j)
  | 4 => some (8, 60 * i + j)
  | _ => gR σ j
/-! methods: class number, name, descriptor, code, locals, type, frames below, words below -/
def clsN : List String := ["UncrossedBook$Auction", "UncrossedBook$Book", "UncrossedBook$Desk", "UncrossedBook$Order", "UncrossedBook$Ranking", "UncrossedBook$Shelf", "UncrossedBook$TextReader", "UncrossedBook$TradeLog", "UncrossedBook", "UncrossedBookModel", "java/util/Arrays", "java/lang/Math", "UncrossedBookLaw"]
def cN (c : Nat) : String := clsN.getD c ""
abbrev aMt : Type := Nat × String × String × ByteArray × Nat × Option FieldType × Nat × Nat
def meths : List aMt := [
  (0, "<init>", "()V", prog_2_method_1_code, 1, none, 0, 0),
  (0, "find", "(LUncrossedBook$Book;)V", prog_2_method_2_code, 10, none, 2, 47),
  (0, "gather", "(LUncrossedBook$Book;)I", prog_2_method_3_code, 5, (some .int), 1, 23),
  (1, "<init>", "()V", prog_3_method_1_code, 2, none, 0, 0),
  (1, "takeOver", "(LUncrossedBook$Book;)V", prog_3_method_2_code, 3, none, 2, 69),
  (1, "orderAt", "(I)LUncrossedBook$Order;", prog_3_method_3_code, 2, (some (.object "UncrossedBook$Order")), 0, 0),
  (1, "giveTime", "(LUncrossedBook$Order;)V", prog_3_method_4_code, 2, none, 0, 0),
  (1, "rest", "(LUncrossedBook$Order;)V", prog_3_method_5_code, 2, none, 2, 41),
  (1, "firstOn", "(I)LUncrossedBook$Order;", prog_3_method_6_code, 5, (some (.object "UncrossedBook$Order")), 1, 23),
  (1, "bestPrice", "(I)I", prog_3_method_7_code, 3, (some .int), 2, 47),
  (1, "priceOf", "(LUncrossedBook$Order;)I", prog_3_method_8_code, 2, (some .int), 3, 69),
  (1, "countIn", "(I)I", prog_3_method_9_code, 4, (some .int), 0, 0),
  (1, "drawBelow", "(I)I", prog_3_method_10_code, 2, (some .int), 0, 0),
  (2, "<init>", "()V", prog_4_method_1_code, 1, none, 0, 0),
  (2, "bring", "(IIIIIII)I", prog_4_method_2_code, 9, (some .int), 6, 133),
  (2, "pass", "(III)I", prog_4_method_3_code, 4, (some .int), 6, 133),
  (2, "alter", "(LUncrossedBook$Order;II)V", prog_4_method_4_code, 4, none, 6, 133),
  (2, "open", "(II)V", prog_4_method_5_code, 8, none, 6, 133),
  (2, "enter", "(LUncrossedBook$Order;)V", prog_4_method_6_code, 2, none, 5, 111),
  (2, "tryAtOnce", "(LUncrossedBook$Order;I)V", prog_4_method_7_code, 3, none, 5, 111),
  (2, "noLimit", "(I)I", prog_4_method_8_code, 1, (some .int), 0, 0),
  (2, "endUnrested", "(LUncrossedBook$Order;)V", prog_4_method_9_code, 1, none, 0, 0),
  (2, "thereIsEnoughFor", "(LUncrossedBook$Order;)Z", prog_4_method_10_code, 8, (some .boolean), 3, 69),
  (2, "isWithin", "(LUncrossedBook$Order;II)Z", prog_4_method_11_code, 3, (some .boolean), 0, 0),
  (2, "goIn", "(LUncrossedBook$Order;I)V", prog_4_method_12_code, 6, none, 4, 86),
  (2, "meet", "(LUncrossedBook$Order;LUncrossedBook$Order;)V", prog_4_method_13_code, 4, none, 3, 63),
  (2, "comeRound", "(LUncrossedBook$Order;I)V", prog_4_method_14_code, 3, none, 2, 41),
  (2, "tradeAway", "(LUncrossedBook$Order;LUncrossedBook$Order;II)V", prog_4_method_15_code, 5, none, 1, 25),
  (2, "meetOwn", "(LUncrossedBook$Order;LUncrossedBook$Order;)V", prog_4_method_16_code, 4, none, 3, 63),
  (2, "lessenBy", "(LUncrossedBook$Order;I)V", prog_4_method_17_code, 2, none, 2, 42),
  (2, "wakeStops", "()V", prog_4_method_18_code, 3, none, 5, 111),
  (2, "firstReachedStop", "()LUncrossedBook$Order;", prog_4_method_19_code, 3, (some (.object "UncrossedBook$Order")), 1, 22),
  (2, "isReached", "(LUncrossedBook$Order;)Z", prog_4_method_20_code, 3, (some .boolean), 0, 0),
  (3, "<init>", "(I)V", prog_5_method_1_code, 2, none, 0, 0),
  (3, "begin", "(IIIIII)V", prog_5_method_2_code, 7, none, 0, 0),
  (3, "takeOver", "(LUncrossedBook$Order;)V", prog_5_method_3_code, 2, none, 0, 0),
  (3, "isUnder", "(I)Z", prog_5_method_4_code, 2, (some .boolean), 0, 0),
  (3, "canBeAmended", "()Z", prog_5_method_5_code, 1, (some .boolean), 0, 0),
  (3, "restsOn", "(I)Z", prog_5_method_6_code, 2, (some .boolean), 0, 0),
  (3, "visibleNow", "()I", prog_5_method_7_code, 1, (some .int), 0, 0),
  (3, "priceBy", "(I)I", prog_5_method_8_code, 3, (some .int), 1, 20),
  (3, "isAheadOf", "(LUncrossedBook$Order;II)Z", prog_5_method_9_code, 4, (some .boolean), 0, 0),
  (3, "giveTraded", "(I)V", prog_5_method_10_code, 2, none, 0, 0),
  (3, "lessenTo", "(I)V", prog_5_method_11_code, 2, none, 1, 21),
  (3, "showAnew", "()V", prog_5_method_12_code, 1, none, 1, 21),
  (4, "<init>", "()V", prog_6_method_1_code, 1, none, 0, 0),
  (4, "lineUp", "(LUncrossedBook$Book;I)V", prog_6_method_2_code, 7, none, 3, 69),
  (4, "placeIn", "(LUncrossedBook$Order;I)V", prog_6_method_3_code, 4, none, 1, 23),
  (4, "orderAt", "(I)LUncrossedBook$Order;", prog_6_method_4_code, 2, (some (.object "UncrossedBook$Order")), 0, 0),
  (4, "priceOfLevel", "(I)I", prog_6_method_5_code, 5, (some .int), 0, 0),
  (4, "visibleAt", "(I)I", prog_6_method_6_code, 4, (some .int), 1, 20),
  (4, "visibleAhead", "(LUncrossedBook$Order;)I", prog_6_method_7_code, 4, (some .int), 1, 20),
  (4, "costOf", "(I)I", prog_6_method_8_code, 6, (some .int), 1, 21),
  (5, "<init>", "()V", prog_7_method_1_code, 1, none, 0, 0),
  (5, "holdNothing", "()V", prog_7_method_2_code, 1, none, 0, 0),
  (5, "holdOrder", "(I)V", prog_7_method_3_code, 2, none, 1, 20),
  (5, "holdRow", "(II)V", prog_7_method_4_code, 3, none, 1, 24),
  (5, "holdsRow", "()Z", prog_7_method_5_code, 1, (some .boolean), 0, 0),
  (5, "holdsOrder", "()Z", prog_7_method_6_code, 1, (some .boolean), 0, 0),
  (5, "hasElement", "(I)Z", prog_7_method_7_code, 2, (some .boolean), 0, 0),
  (5, "hasSpan", "(II)Z", prog_7_method_8_code, 3, (some .boolean), 0, 0),
  (5, "put", "(IJ)V", prog_7_method_9_code, 4, none, 1, 21),
  (5, "intAt", "(I)I", prog_7_method_10_code, 2, (some .int), 1, 21),
  (6, "<init>", "()V", prog_8_method_1_code, 1, none, 0, 0),
  (6, "faultIn", "(LUncrossedBook$Shelf;)I", prog_8_method_2_code, 3, (some .int), 6, 137),
  (6, "takeItem", "(LUncrossedBook$Shelf;)V", prog_8_method_3_code, 7, none, 5, 111),
  (6, "signAt", "(LUncrossedBook$Shelf;)I", prog_8_method_4_code, 2, (some .int), 2, 42),
  (6, "takeSign", "(LUncrossedBook$Shelf;I)V", prog_8_method_5_code, 3, none, 4, 87),
  (6, "takeBetween", "(LUncrossedBook$Shelf;II)I", prog_8_method_6_code, 5, (some .int), 3, 63),
  (6, "takeNumber", "(LUncrossedBook$Shelf;)I", prog_8_method_7_code, 5, (some .int), 4, 87),
  (6, "isDigitNext", "(LUncrossedBook$Shelf;)Z", prog_8_method_8_code, 3, (some .boolean), 3, 63),
  (7, "<init>", "()V", prog_9_method_1_code, 1, none, 0, 0),
  (7, "takeOver", "(LUncrossedBook$TradeLog;)V", prog_9_method_2_code, 2, none, 1, 48),
  (7, "note", "(LUncrossedBook$Order;LUncrossedBook$Order;II)V", prog_9_method_3_code, 6, none, 0, 0),
  (7, "keeps", "(I)Z", prog_9_method_4_code, 2, (some .boolean), 0, 0),
  (7, "tell", "(II)I", prog_9_method_5_code, 3, (some .int), 1, 21),
  (7, "isToldBy", "(LUncrossedBook$Shelf;I)Z", prog_9_method_6_code, 4, (some .boolean), 2, 43),
  (8, "<init>", "()V", prog_1_method_1_code, 2, none, 0, 0),
  (8, "row", "(III)I", prog_1_method_2_code, 4, (some .int), 2, 46),
  (8, "set", "(IIJ)I", prog_1_method_3_code, 6, (some .int), 2, 44),
  (8, "copy", "(IIIII)I", prog_1_method_4_code, 8, (some .int), 1, 48),
  (8, "element", "(II)J", prog_1_method_5_code, 3, (some .long), 1, 21),
  (8, "show", "(II)I", prog_1_method_6_code, 3, (some .int), 2, 41),
  (8, "holds", "(I)I", prog_1_method_7_code, 3, (some .int), 1, 20),
  (8, "says", "(II)I", prog_1_method_8_code, 4, (some .int), 4, 90),
  (8, "limit", "(IIIII)I", prog_1_method_9_code, 8, (some .int), 7, 161),
  (8, "hidden", "(IIIII)I", prog_1_method_10_code, 8, (some .int), 7, 161),
  (8, "pegged", "(IIII)I", prog_1_method_11_code, 7, (some .int), 7, 161),
  (8, "halt", "(IIII)I", prog_1_method_12_code, 7, (some .int), 7, 161),
  (8, "market", "(III)I", prog_1_method_13_code, 4, (some .int), 7, 156),
  (8, "read", "(I)I", prog_1_method_14_code, 5, (some .int), 7, 161),
  (8, "fault", "()I", prog_1_method_15_code, 1, (some .int), 0, 0),
  (8, "cancel", "(I)I", prog_1_method_16_code, 3, (some .int), 1, 21),
  (8, "amend", "(III)I", prog_1_method_17_code, 6, (some .int), 7, 156),
  (8, "rule", "(I)I", prog_1_method_18_code, 3, (some .int), 1, 21),
  (8, "uncross", "()I", prog_1_method_19_code, 1, (some .int), 7, 160),
  (8, "close", "()I", prog_1_method_20_code, 1, (some .int), 1, 23),
  (8, "crossing", "(I)I", prog_1_method_21_code, 2, (some .int), 3, 76),
  (8, "orderOf", "(II)I", prog_1_method_22_code, 4, (some .int), 4, 90),
  (8, "rank", "(II)I", prog_1_method_23_code, 4, (some .int), 4, 95),
  (8, "depth", "(III)I", prog_1_method_24_code, 5, (some .int), 4, 95),
  (8, "ahead", "(I)I", prog_1_method_25_code, 3, (some .int), 4, 95),
  (8, "sweep", "(II)I", prog_1_method_26_code, 3, (some .int), 4, 95),
  (8, "trades", "()I", prog_1_method_27_code, 1, (some .int), 0, 0),
  (8, "trade", "(II)I", prog_1_method_28_code, 3, (some .int), 2, 43),
  (8, "position", "(I)I", prog_1_method_29_code, 2, (some .int), 1, 21),
  (8, "cash", "(I)I", prog_1_method_30_code, 2, (some .int), 1, 21),
  (8, "judge", "(II)I", prog_1_method_31_code, 5, (some .int), 3, 66),
  (8, "draws", "(I)I", prog_1_method_32_code, 8, (some .int), 7, 161),
  (8, "seed", "(I)I", prog_1_method_33_code, 3, (some .int), 0, 0),
  (8, "image", "()I", prog_1_method_34_code, 1, (some .int), 3, 91),
  (8, "restore", "()I", prog_1_method_35_code, 2, (some .int), 3, 91),
  (8, "status", "(I)I", prog_1_method_36_code, 2, (some .int), 1, 23),
  (8, "refuse", "(I)I", prog_1_method_37_code, 2, (some .int), 0, 0),
  (8, "refuseApart", "(I)I", prog_1_method_38_code, 2, (some .int), 1, 21),
  (8, "reasonAgainstRow", "(I)I", prog_1_method_39_code, 2, (some .int), 1, 20),
  (8, "reasonAgainstComer", "(IIZ)I", prog_1_method_40_code, 4, (some .int), 1, 20),
  (8, "isShelf", "(I)Z", prog_1_method_41_code, 1, (some .boolean), 0, 0),
  (8, "isOwner", "(I)Z", prog_1_method_42_code, 1, (some .boolean), 0, 0),
  (8, "isSide", "(I)Z", prog_1_method_43_code, 1, (some .boolean), 0, 0),
  (8, "isMeasure", "(I)Z", prog_1_method_44_code, 1, (some .boolean), 0, 0),
  (8, "otherSide", "(I)I", prog_1_method_45_code, 1, (some .int), 0, 0),
  (9, "<init>", "()V", prog_11_method_1_code, 2, none, 0, 0),
  (9, "in", "(III)Z", prog_11_method_3_code, 3, (some .boolean), 0, 0),
  (9, "refused", "(I)I", prog_11_method_4_code, 2, (some .int), 0, 0),
  (9, "refusedBelow", "(I)I", prog_11_method_5_code, 2, (some .int), 0, 0),
  (9, "isOrder", "(I)Z", prog_11_method_6_code, 2, (some .boolean), 1, 22),
  (9, "isSide", "(I)Z", prog_11_method_7_code, 1, (some .boolean), 1, 22),
  (9, "isOwner", "(I)Z", prog_11_method_8_code, 1, (some .boolean), 1, 22),
  (9, "is999", "(I)Z", prog_11_method_9_code, 1, (some .boolean), 1, 22),
  (9, "isShelf", "(I)Z", prog_11_method_10_code, 1, (some .boolean), 1, 22),
  (9, "row", "(III)I", prog_11_method_11_code, 5, (some .int), 2, 42),
  (9, "wanted", "(I)I", prog_11_method_12_code, 2, (some .int), 2, 42),
  (9, "set", "(IIJ)I", prog_11_method_13_code, 6, (some .int), 3, 63),
  (9, "copy", "(IIIII)I", prog_11_method_14_code, 8, (some .int), 2, 42),
  (9, "isRow", "(I)Z", prog_11_method_15_code, 2, (some .boolean), 2, 42),
  (9, "element", "(II)J", prog_11_method_16_code, 3, (some .long), 3, 63),
  (9, "show", "(II)I", prog_11_method_17_code, 3, (some .int), 2, 43),
  (9, "holds", "(I)I", prog_11_method_18_code, 2, (some .int), 2, 42),
  (9, "isLimit", "(I)Z", prog_11_method_19_code, 2, (some .boolean), 0, 0),
  (9, "doesRest", "(I)Z", prog_11_method_20_code, 2, (some .boolean), 0, 0),
  (9, "bestPrice", "(I)I", prog_11_method_21_code, 6, (some .int), 1, 21),
  (9, "priceOf", "(I)I", prog_11_method_22_code, 4, (some .int), 2, 46),
  (9, "seenOf", "(I)I", prog_11_method_23_code, 2, (some .int), 1, 21),
  (9, "isAheadOf", "(II)Z", prog_11_method_24_code, 5, (some .boolean), 3, 69),
  (9, "isRanked", "(II)Z", prog_11_method_25_code, 3, (some .boolean), 3, 69),
  (9, "aheadMany", "(I)I", prog_11_method_26_code, 4, (some .int), 4, 93),
  (9, "firstOf", "(IZ)I", prog_11_method_27_code, 6, (some .int), 4, 93),
  (9, "isWithin", "(III)Z", prog_11_method_28_code, 3, (some .boolean), 0, 0),
  (9, "pays", "(III)V", prog_11_method_29_code, 4, none, 0, 0),
  (9, "notes", "(IIII)V", prog_11_method_30_code, 6, none, 0, 0),
  (9, "fresh", "(I)V", prog_11_method_31_code, 2, none, 0, 0),
  (9, "nextTime", "()I", prog_11_method_32_code, 1, (some .int), 0, 0),
  (9, "rests", "(I)V", prog_11_method_33_code, 2, none, 1, 21),
  (9, "loses", "(II)V", prog_11_method_34_code, 3, none, 1, 21),
  (9, "meets", "(I)V", prog_11_method_35_code, 3, none, 0, 0),
  (9, "goesIn", "(IIIII)V", prog_11_method_36_code, 10, none, 5, 118),
  (9, "orderGoesIn", "(IIZ)V", prog_11_method_37_code, 4, none, 6, 147),
  (9, "isReached", "(I)Z", prog_11_method_38_code, 3, (some .boolean), 0, 0),
  (9, "stops", "()V", prog_11_method_39_code, 2, none, 7, 170),
  (9, "comes", "(IIIIII)I", prog_11_method_40_code, 8, (some .int), 0, 0),
  (9, "isEnough", "(I)Z", prog_11_method_41_code, 5, (some .boolean), 4, 91),
  (9, "limitComes", "(II)V", prog_11_method_42_code, 3, none, 8, 191),
  (9, "wantedOrder", "(IIZ)I", prog_11_method_43_code, 4, (some .int), 2, 42),
  (9, "limit", "(IIIII)I", prog_11_method_44_code, 8, (some .int), 9, 213),
  (9, "hidden", "(IIIII)I", prog_11_method_45_code, 8, (some .int), 9, 213),
  (9, "pegged", "(IIII)I", prog_11_method_46_code, 7, (some .int), 8, 191),
  (9, "halt", "(IIII)I", prog_11_method_47_code, 7, (some .int), 8, 191),
  (9, "market", "(III)I", prog_11_method_48_code, 5, (some .int), 8, 191),
  (9, "here", "()I", prog_11_method_49_code, 1, (some .int), 0, 0),
  (9, "fails", "(I)V", prog_11_method_50_code, 2, none, 0, 0),
  (9, "one", "(II)I", prog_11_method_51_code, 3, (some .int), 1, 22),
  (9, "isDigit", "()Z", prog_11_method_52_code, 1, (some .boolean), 1, 22),
  (9, "number", "()I", prog_11_method_53_code, 4, (some .int), 2, 44),
  (9, "item", "(Z)V", prog_11_method_54_code, 7, none, 9, 213),
  (9, "goesThrough", "(Z)I", prog_11_method_55_code, 3, (some .int), 10, 239),
  (9, "read", "(I)I", prog_11_method_56_code, 4, (some .int), 11, 261),
  (9, "fault", "()I", prog_11_method_57_code, 1, (some .int), 0, 0),
  (9, "isThere", "(I)Z", prog_11_method_58_code, 2, (some .boolean), 0, 0),
  (9, "cancel", "(I)I", prog_11_method_59_code, 2, (some .int), 2, 43),
  (9, "amend", "(III)I", prog_11_method_60_code, 6, (some .int), 9, 213),
  (9, "rule", "(I)I", prog_11_method_61_code, 3, (some .int), 1, 22),
  (9, "volumeAt", "(I)I", prog_11_method_62_code, 4, (some .int), 1, 21),
  (9, "far", "(II)I", prog_11_method_63_code, 2, (some .int), 0, 0),
  (9, "crossPrice", "()I", prog_11_method_64_code, 8, (some .int), 2, 44),
  (9, "crosses", "(II)V", prog_11_method_65_code, 7, none, 5, 118),
  (9, "crossed", "(II)V", prog_11_method_66_code, 3, none, 0, 0),
  (9, "uncross", "()I", prog_11_method_67_code, 3, (some .int), 8, 191),
  (9, "manyIn", "(I)I", prog_11_method_68_code, 4, (some .int), 0, 0),
  (9, "close", "()I", prog_11_method_69_code, 1, (some .int), 1, 23),
  (9, "crossing", "(I)I", prog_11_method_70_code, 3, (some .int), 3, 71),
  (9, "pricedAs", "(I)I", prog_11_method_71_code, 2, (some .int), 3, 69),
  (9, "says", "(II)I", prog_11_method_72_code, 6, (some .int), 4, 90),
  (9, "orderOf", "(II)I", prog_11_method_73_code, 3, (some .int), 4, 90),
  (9, "ranked", "(II)I", prog_11_method_74_code, 5, (some .int), 5, 116),
  (9, "rank", "(II)I", prog_11_method_75_code, 3, (some .int), 6, 140),
  (9, "depth", "(III)I", prog_11_method_76_code, 9, (some .int), 6, 140),
  (9, "ahead", "(I)I", prog_11_method_77_code, 4, (some .int), 4, 93),
  (9, "sweep", "(II)I", prog_11_method_78_code, 8, (some .int), 6, 140),
  (9, "trades", "()I", prog_11_method_79_code, 1, (some .int), 0, 0),
  (9, "kept", "()I", prog_11_method_80_code, 1, (some .int), 0, 0),
  (9, "trade", "(II)I", prog_11_method_81_code, 3, (some .int), 1, 22),
  (9, "position", "(I)I", prog_11_method_82_code, 2, (some .int), 2, 42),
  (9, "cash", "(I)I", prog_11_method_83_code, 2, (some .int), 2, 42),
  (9, "judge", "(II)I", prog_11_method_84_code, 7, (some .int), 3, 63),
  (9, "drawn", "(I)I", prog_11_method_85_code, 2, (some .int), 0, 0),
  (9, "draws", "(I)I", prog_11_method_86_code, 8, (some .int), 9, 213),
  (9, "seed", "(I)I", prog_11_method_87_code, 3, (some .int), 0, 0),
  (9, "image", "()I", prog_11_method_88_code, 2, (some .int), 0, 0),
  (9, "restore", "()I", prog_11_method_89_code, 2, (some .int), 2, 43),
  (9, "status", "(I)I", prog_11_method_90_code, 2, (some .int), 1, 23),
  (11, "abs", "(I)I", prog_12_method_59_code, 1, (some .int), 0, 0),
  (11, "min", "(II)I", prog_12_method_69_code, 2, (some .int), 0, 0),
  (10, "fill", "([JJ)V", prog_14_method_101_code, 5, none, 0, 0),
  (10, "fill", "([II)V", prog_14_method_103_code, 4, none, 0, 0),
  (12, "law", "([I)Z", code, 4, (some .boolean), 12, 284)]
def mE (y : Nat) : aMt := meths.getD y (99, "", "", ⟨#[]⟩, 0, none, 0, 0)
def mC (y : Nat) : Nat := (mE y).1
def mNm (y : Nat) : MethodName := ⟨cN (mE y).1, (mE y).2.1, (mE y).2.2.1⟩
def mCd (y : Nat) : ByteArray := (mE y).2.2.2.1
def mL (y : Nat) : Nat := (mE y).2.2.2.2.1
def mRt (y : Nat) : Option FieldType := (mE y).2.2.2.2.2.1
def mF (y : Nat) : Nat := (mE y).2.2.2.2.2.2.1
def mW (y : Nat) : Nat := (mE y).2.2.2.2.2.2.2
/-- calls by class and pool number: kind (0 virtual, 1 static, 2 static of a nest mate, 3 System.arraycopy), how many arguments, the method -/
def siteT : List (List (Nat × Nat × Nat × Nat)) := [[(36, 0, 1, 2), (40, 1, 2, 212), (46, 1, 1, 211), (50, 1, 2, 214), (72, 2, 1, 120)], [(43, 0, 1, 35), (47, 0, 1, 72), (56, 0, 0, 44), (59, 0, 1, 6), (62, 0, 1, 38), (72, 0, 3, 41), (76, 0, 1, 8), (83, 0, 1, 9), (87, 0, 1, 40)], [(35, 0, 6, 34), (42, 0, 1, 7), (46, 0, 1, 18), (49, 0, 2, 19), (53, 0, 0, 30), (59, 1, 1, 20), (63, 0, 2, 24), (78, 0, 1, 43), (81, 0, 1, 8), (85, 1, 2, 212), (91, 0, 4, 27), (95, 0, 0, 44), (101, 0, 1, 22), (105, 1, 1, 21), (111, 2, 1, 121), (114, 0, 1, 9), (123, 0, 1, 38), (127, 0, 1, 40), (130, 1, 3, 23), (134, 0, 2, 28), (138, 0, 2, 25), (141, 0, 0, 39), (145, 0, 2, 26), (151, 0, 1, 6), (158, 0, 4, 73), (163, 0, 1, 42), (166, 1, 2, 29), (169, 0, 0, 31), (173, 0, 1, 32)], [(45, 2, 1, 120), (49, 1, 2, 212)], [(25, 0, 1, 9), (37, 0, 1, 40), (40, 0, 1, 38), (44, 0, 2, 47), (48, 0, 3, 41), (52, 0, 0, 39), (59, 1, 2, 212)], [(25, 0, 0, 54), (28, 1, 2, 213), (34, 0, 1, 59)], [(37, 0, 1, 65), (46, 0, 2, 67), (50, 0, 3, 68), (54, 0, 1, 66), (58, 0, 1, 69), (61, 0, 1, 62), (65, 0, 1, 70), (69, 2, 1, 120)], [(28, 3, 5, 0), (42, 0, 1, 74), (46, 0, 1, 62), (52, 0, 2, 75)], [(67, 1, 1, 117), (71, 0, 1, 113), (75, 0, 2, 56), (79, 0, 1, 115), (82, 0, 1, 59), (85, 0, 2, 61), (89, 0, 0, 58), (93, 0, 0, 57), (99, 0, 2, 60), (107, 3, 5, 0), (113, 0, 0, 54), (116, 0, 1, 5), (120, 0, 1, 55), (127, 0, 1, 36), (135, 0, 0, 39), (139, 0, 1, 10), (143, 1, 1, 120), (146, 0, 3, 116), (150, 0, 7, 14), (154, 1, 1, 118), (157, 1, 1, 119), (163, 0, 3, 15), (167, 0, 1, 64), (193, 0, 0, 37), (199, 0, 3, 16), (206, 0, 1, 1), (216, 0, 2, 17), (219, 0, 1, 11), (231, 0, 1, 114), (234, 0, 2, 46), (238, 0, 1, 48), (242, 0, 1, 49), (245, 0, 1, 50), (248, 0, 1, 51), (252, 1, 1, 121), (255, 0, 1, 52), (265, 0, 1, 74), (268, 0, 2, 75), (283, 0, 2, 76), (287, 0, 1, 12), (293, 0, 1, 4)], [(43, 1, 3, 123), (47, 1, 1, 130), (51, 0, 1, 124), (55, 0, 1, 132), (58, 0, 1, 135), (61, 0, 1, 126), (64, 0, 1, 140), (67, 0, 1, 139), (70, 0, 1, 141), (73, 1, 1, 129), (76, 0, 1, 142), (79, 0, 2, 145), (83, 0, 2, 144), (86, 0, 0, 152), (90, 0, 1, 151), (113, 0, 2, 147), (117, 1, 3, 148), (120, 0, 1, 155), (123, 0, 1, 143), (126, 0, 2, 154), (130, 0, 3, 149), (134, 0, 4, 150), (138, 0, 5, 156), (142, 0, 1, 153), (145, 0, 1, 158), (148, 0, 3, 157), (152, 0, 1, 161), (155, 0, 0, 159), (158, 1, 1, 128), (161, 1, 1, 127), (164, 0, 3, 163), (168, 0, 6, 160), (172, 0, 2, 162), (184, 0, 0, 169), (187, 0, 1, 170), (190, 0, 2, 171), (194, 0, 0, 172), (198, 0, 0, 173), (201, 0, 1, 174), (205, 0, 1, 175), (209, 0, 1, 178), (221, 0, 1, 182), (224, 1, 2, 183), (227, 0, 2, 186), (230, 0, 0, 184), (233, 0, 2, 185), (236, 0, 1, 188), (239, 0, 1, 191), (242, 0, 1, 146), (245, 0, 2, 194), (248, 0, 1, 125), (252, 0, 0, 200), (258, 0, 1, 205)], [], [], [(13, 0, 3, 78), (17, 0, 3, 131), (20, 0, 3, 79), (24, 0, 3, 133), (25, 0, 5, 80), (29, 0, 5, 134), (30, 0, 2, 81), (34, 0, 2, 136), (35, 0, 2, 82), (39, 0, 2, 137), (40, 0, 1, 83), (44, 0, 1, 138), (45, 0, 2, 84), (48, 0, 2, 192), (49, 0, 5, 85), (52, 0, 5, 164), (53, 0, 5, 86), (56, 0, 5, 165), (57, 0, 4, 87), (61, 0, 4, 166), (62, 0, 4, 88), (65, 0, 4, 167), (66, 0, 3, 89), (69, 0, 3, 168), (70, 0, 1, 90), (73, 0, 1, 176), (74, 0, 0, 91), (78, 0, 0, 177), (79, 0, 1, 92), (82, 0, 1, 179), (83, 0, 3, 93), (86, 0, 3, 180), (87, 0, 1, 94), (90, 0, 1, 181), (91, 0, 0, 95), (94, 0, 0, 187), (95, 0, 0, 96), (98, 0, 0, 189), (99, 0, 1, 97), (102, 0, 1, 190), (103, 0, 2, 98), (106, 0, 2, 193), (107, 0, 2, 99), (110, 0, 2, 195), (111, 0, 3, 100), (114, 0, 3, 196), (115, 0, 1, 101), (118, 0, 1, 197), (119, 0, 2, 102), (122, 0, 2, 198), (123, 0, 0, 103), (126, 0, 0, 199), (127, 0, 2, 104), (130, 0, 2, 201), (131, 0, 1, 105), (134, 0, 1, 202), (135, 0, 1, 106), (138, 0, 1, 203), (139, 0, 2, 107), (142, 0, 2, 204), (143, 0, 1, 108), (146, 0, 1, 206), (147, 0, 1, 109), (150, 0, 1, 207), (151, 0, 0, 110), (154, 0, 0, 208), (155, 0, 0, 111), (158, 0, 0, 209), (159, 0, 1, 112), (162, 0, 1, 210)]]
def site (c x : Nat) : Option (Nat × Nat × Nat) := ((siteT.getD c []).find? (fun q => q.1 == x)).map (fun q => q.2)
/-- fields by class and pool number: the class, the slot -/
def fldT : List (List (Nat × Nat × Nat)) := [[(9, 0, 0), (15, 0, 1), (18, 0, 2), (22, 0, 3), (25, 1, 1), (31, 7, 4), (56, 1, 2), (59, 1, 0), (63, 3, 5), (68, 3, 1), (71, 3, 7), (76, 3, 3), (79, 3, 4)], [(11, 1, 0), (20, 1, 1), (24, 1, 2), (28, 1, 3), (31, 1, 4), (34, 1, 5), (37, 1, 6), (50, 3, 10), (53, 3, 5), (66, 3, 1), (69, 3, 7), (80, 3, 3)], [(12, 2, 0), (23, 2, 1), (27, 1, 2), (31, 1, 0), (39, 3, 5), (56, 3, 0), (66, 3, 6), (69, 3, 1), (72, 3, 4), (75, 3, 7), (98, 1, 3), (108, 3, 3), (117, 1, 4), (120, 3, 2), (148, 3, 9), (154, 1, 1), (176, 7, 4)], [(9, 3, 1), (15, 3, 2), (18, 3, 3), (21, 3, 4), (24, 3, 5), (27, 3, 6), (30, 3, 7), (33, 3, 8), (36, 3, 9), (39, 3, 10), (42, 3, 0)], [(11, 4, 0), (17, 4, 1), (21, 4, 2), (31, 1, 2), (34, 1, 0), (56, 3, 4)], [(9, 5, 0), (15, 5, 1), (19, 5, 2), (22, 5, 3)], [(11, 6, 0), (15, 6, 1), (18, 6, 2), (21, 6, 3), (24, 6, 4), (27, 6, 5), (31, 6, 6), (34, 6, 7), (41, 5, 1)], [(9, 7, 0), (15, 7, 1), (18, 7, 2), (21, 7, 3), (25, 7, 4), (34, 3, 0), (39, 3, 2)], [(11, 8, 0), (15, 8, 1), (22, 8, 2), (26, 2, 0), (30, 8, 3), (34, 8, 4), (41, 8, 5), (48, 8, 6), (55, 8, 7), (58, 8, 8), (62, 8, 9), (96, 5, 2), (103, 5, 0), (124, 5, 3), (132, 3, 4), (160, 1, 3), (171, 6, 5), (174, 1, 2), (175, 6, 4), (178, 6, 0), (181, 6, 1), (184, 6, 2), (187, 6, 3), (190, 3, 5), (196, 3, 6), (203, 1, 4), (210, 0, 2), (213, 0, 3), (222, 3, 1), (225, 3, 2), (228, 3, 3), (239, 3, 0), (258, 1, 1), (262, 7, 3), (273, 7, 1), (277, 7, 2), (280, 5, 1), (290, 1, 5), (296, 7, 4)], [(7, 9, 1), (13, 9, 2), (16, 9, 4), (19, 9, 5), (22, 9, 6), (25, 9, 7), (29, 9, 8), (32, 9, 18), (36, 9, 22), (94, 9, 13), (98, 9, 11), (101, 9, 14), (104, 9, 9), (107, 9, 10), (110, 9, 12), (175, 9, 16), (178, 9, 15), (181, 9, 17), (212, 9, 19), (215, 9, 20), (218, 9, 21), (261, 9, 3)], [], [], []]
def fld (c x : Nat) : Option (Nat × Nat) := ((fldT.getD c []).find? (fun q => q.1 == x)).map (fun q => q.2)
/-- constants by class and pool number -/
def cstT : List (Nat × Nat × Int) := [(1, 90, 1103515245), (8, 251, 99999), (8, 272, 1000000), (8, 276, 1000000000), (9, 251, 99999), (9, 255, 1000000), (9, 256, 1000000000), (9, 257, 1103515245)]
def cst (c x : Nat) : Option Int := (cstT.find? (fun q => q.1 == c && q.2.1 == x)).map (fun q => q.2.2)
def cstL (c x : Nat) : Option Int64 := if c = 12 ∧ x = 18 then some 4294967295 else none
/-! one step -/
abbrev aG : Type := Nat × List AV × List AV × aM
abbrev aS : Type := aG ⊕ ((Option AV × aM) ⊕ (Nat × List AV × aG))
def cat (v : AV) : Nat := match v with
  | .inl _ => 1
  | .inr (.inl _) => 2
  | .inr (.inr (.inl _)) => 1
  | .inr (.inr (.inr _)) => 9
def cats (r : List AV) : Nat := (r.map cat).sum
def isJ (v : AV) : Bool := match v with
  | .inr (.inl _) => true
  | _ => false
/-- the place k may be stored to: no long stands right ahead of it -/
def okSt (L : List AV) (k : Nat) : Bool := match k with
  | 0 => true
  | k + 1 => !(((L[k]?).map isJ).getD true)
def inr32 (n : Int) : Bool := decide (-2147483648 ≤ n) && decide (n < 2147483648)
def go1 (pc : Nat) (L st : List AV) (σ : aM) : Option aS := some (.inl (pc, L, st, σ))
def tg (pc : Nat) (off : Int) : Option Nat := if 0 ≤ (pc : Int) + off then some ((pc : Int) + off).toNat else none
def bcnd (k : ClassFile.Cond) (a b : Int) : Bool := match k with
  | .eq => decide (a = b)
  | .ne => !decide (a = b)
  | .lt => decide (a < b)
  | .ge => decide (b ≤ a)
  | .gt => decide (b < a)
  | .le => decide (a ≤ b)
def brn (pc : Nat) (off : Int) (b : Bool) (L st : List AV) (σ : aM) : Option aS := match tg pc off with
  | some t => if b = true then go1 t L st σ else go1 (pc + 3) L st σ
  | none => none
def stS (pc n k : Nat) (v : AV) (L st : List AV) (σ : aM) : Option aS := if k < L.length ∧ okSt L k = true then go1 (pc + n) (L.set k v) st σ else none
def stJ (pc n k : Nat) (v : AV) (L st : List AV) (σ : aM) : Option aS := if k + 1 < L.length ∧ okSt L k = true then go1 (pc + n) ((L.set k v).set (k + 1) aU) st σ else none
def shr (a b : Int) : Int := ((Int32.ofInt a).toUInt32 >>> ((Int32.ofInt b).toUInt32 &&& Int32.toUInt32 31)).toInt32.toInt
def rem (a b : Int) : Int := (Int32.ofInt a - Int32.ofInt a / Int32.ofInt b * Int32.ofInt b).toInt
def quo (a b : Int) : Int := (Int32.ofInt a / Int32.ofInt b).toInt
def ian (a b : Int) : Int := (Int32.ofInt a &&& Int32.ofInt b).toInt
def tob (a : Int) : Int := (Int32.ofInt a).toInt8.toInt32.toInt
def tos (a : Int) : Int := (Int32.ofInt a).toInt16.toInt32.toInt
def toj (a : Int) : Int64 := (Int32.ofInt a).toInt64
def toi (x : Int64) : Int := x.toInt32.toInt
/-- a method's locals at its entry -/
def lay (as : List AV) : List AV := as.flatMap fun v => if isJ v then [v, aU] else [v]
def lay0 (y : Nat) (as : List AV) : List AV := lay as ++ List.replicate (mL y - (lay as).length) aU
def okCall (y y' : Nat) (r : List AV) (as : List AV) : Bool := decide (mF y' + 1 ≤ mF y) && decide (8 + (mL y' + 11) + mW y' ≤ mW y) && decide (cats r ≤ 8) && decide ((lay as).length ≤ mL y')
def isB (v : Int) : Bool := decide (v = 0) || decide (v = 1)
def ldA (t : Nat) (i a : Int) (σ : aM) (T pc : Nat) (L st : List AV) (v : AV) : Option aS := if fT t = T ∧ (0 ≤ a ∧ a < aLen σ t) then go1 (pc + 1) L (v :: st) σ else none
def call (y x pc : Nat) (K : Nat) (L st : List AV) (σ : aM) : Option aS := match site (mC y) x with
  | some (0, n, y') => (if K = 0 then (match st.drop n with
    | .inr (.inr (.inl (some (t, i)))) :: r => if fC t = mC y' ∧ n ≤ st.length ∧ okCall y y' r (aR t i :: (st.take n).reverse) = true then some (.inr (.inr (y', aR t i :: (st.take n).reverse, (pc + 3, L, r, σ)))) else none
    | _ => none) else none)
  | some (1, n, y') => (if K = 1 ∧ n ≤ st.length ∧ okCall y y' (st.drop n) ((st.take n).reverse) = true then some (.inr (.inr (y', (st.take n).reverse, (pc + 3, L, st.drop n, σ)))) else none)
  | some (2, n, y') => (if K = 1 ∧ n ≤ st.length ∧ okCall y y' (st.drop n) ((st.take n).reverse) = true then some (.inr (.inr (y', (st.take n).reverse, (pc + 3, L, st.drop n, σ)))) else none)
  | some (3, _, _) => (match st with
    | .inl n :: .inl b :: .inr (.inr (.inl (some (t2, i2)))) :: .inl a :: .inr (.inr (.inl (some (t, i)))) :: r =>
      if K = 1 ∧ fT t = fT t2 ∧ t < 34 ∧ t2 < 34 ∧ 0 ≤ a ∧ 0 ≤ b ∧ 0 ≤ n ∧ a + n ≤ fL t ∧ b + n ≤ fL t2 ∧ 1 ≤ mF y ∧ cats r + 40 ≤ mW y then
        (match fT t with
        | 0 => go1 (pc + 3) L r (kI σ t i a t2 i2 b n)
        | 1 => go1 (pc + 3) L r (kL σ t i a t2 i2 b n)
        | _ => none) else none
    | _ => none)
  | _ => none
def stp (y : Nat) (ins : Instr) (pc : Nat) (L st : List AV) (σ : aM) : Option aS := match ins with
  | .aload_n k => (match L[(k : Nat)]? with | some (.inr (.inr (.inl q))) => go1 (pc + 1) L (aQ q :: st) σ | _ => none)
  | .aload k => (match L[k]? with | some (.inr (.inr (.inl q))) => go1 (pc + 2) L (aQ q :: st) σ | _ => none)
  | .iload_n k => (match L[(k : Nat)]? with | some (.inl v) => go1 (pc + 1) L (aI v :: st) σ | _ => none)
  | .iload k => (match L[k]? with | some (.inl v) => go1 (pc + 2) L (aI v :: st) σ | _ => none)
  | .lload_n k => (match L[(k : Nat)]? with | some (.inr (.inl v)) => go1 (pc + 1) L (aJ v :: st) σ | _ => none)
  | .istore_n k => (match st with | .inl v :: r => stS pc 1 k (aI v) L r σ | _ => none)
  | .istore k => (match st with | .inl v :: r => stS pc 2 k (aI v) L r σ | _ => none)
  | .astore_n k => (match st with | .inr (.inr (.inl q)) :: r => stS pc 1 k (aQ q) L r σ | _ => none)
  | .astore k => (match st with | .inr (.inr (.inl q)) :: r => stS pc 2 k (aQ q) L r σ | _ => none)
  | .iinc k n => (match L[k]? with | some (.inl v) => stS pc 3 k (aI (wr (v + n))) L st σ | _ => none)
  | .aconst_null => go1 (pc + 1) L (aN :: st) σ
  | .iconst n => if inr32 n = true then go1 (pc + 1) L (aI n :: st) σ else none
  | .bipush n => if -128 ≤ n ∧ n < 128 then go1 (pc + 2) L (aI n :: st) σ else none
  | .sipush n => if -32768 ≤ n ∧ n < 32768 then go1 (pc + 3) L (aI n :: st) σ else none
  | .lconst n => go1 (pc + 1) L (aJ (Int64.ofNat (n : Nat)) :: st) σ
  | .ldc x => (match cst (mC y) x with | some v => if inr32 v = true then go1 (pc + 2) L (aI v :: st) σ else none | none => none)
  | .ldc_w x => (match cst (mC y) x with | some v => if inr32 v = true then go1 (pc + 3) L (aI v :: st) σ else none | none => none)
  | .ldc2_w x => (match cstL (mC y) x with | some v => go1 (pc + 3) L (aJ v :: st) σ | none => none)
  | .dup => (match st with | v :: r => if cat v = 1 then go1 (pc + 1) L (v :: v :: r) σ else none | _ => none)
  | .dup2 => (match st with | u :: v :: r => if cat u = 1 ∧ cat v = 1 then go1 (pc + 1) L (u :: v :: u :: v :: r) σ else none | _ => none)
  | .pop => (match st with | v :: r => if cat v = 1 then go1 (pc + 1) L r σ else none | _ => none)
  | .iadd => (match st with | .inl b :: .inl a :: r => go1 (pc + 1) L (aI (wr (a + b)) :: r) σ | _ => none)
  | .isub => (match st with | .inl b :: .inl a :: r => go1 (pc + 1) L (aI (wr (a - b)) :: r) σ | _ => none)
  | .imul => (match st with | .inl b :: .inl a :: r => go1 (pc + 1) L (aI (wr (a * b)) :: r) σ | _ => none)
  | .idiv => (match st with | .inl b :: .inl a :: r => if b ≠ 0 then go1 (pc + 1) L (aI (quo a b) :: r) σ else none | _ => none)
  | .irem => (match st with | .inl b :: .inl a :: r => if b ≠ 0 then go1 (pc + 1) L (aI (rem a b) :: r) σ else none | _ => none)
  | .iand => (match st with | .inl b :: .inl a :: r => go1 (pc + 1) L (aI (ian a b) :: r) σ | _ => none)
  | .iushr => (match st with | .inl b :: .inl a :: r => go1 (pc + 1) L (aI (shr a b) :: r) σ | _ => none)
  | .ineg => (match st with | .inl a :: r => go1 (pc + 1) L (aI (wr (-a)) :: r) σ | _ => none)
  | .i2b => (match st with | .inl a :: r => go1 (pc + 1) L (aI (tob a) :: r) σ | _ => none)
  | .i2s => (match st with | .inl a :: r => go1 (pc + 1) L (aI (tos a) :: r) σ | _ => none)
  | .i2l => (match st with | .inl a :: r => go1 (pc + 1) L (aJ (toj a) :: r) σ | _ => none)
  | .l2i => (match st with | .inr (.inl x) :: r => go1 (pc + 1) L (aI (toi x) :: r) σ | _ => none)
  | .ladd => (match st with | .inr (.inl z) :: .inr (.inl x) :: r => go1 (pc + 1) L (aJ (x + z) :: r) σ | _ => none)
  | .land => (match st with | .inr (.inl z) :: .inr (.inl x) :: r => go1 (pc + 1) L (aJ (x &&& z) :: r) σ | _ => none)
  | .lor => (match st with | .inr (.inl z) :: .inr (.inl x) :: r => go1 (pc + 1) L (aJ (x ||| z) :: r) σ | _ => none)
  | .lshl => (match st with | .inl b :: .inr (.inl x) :: r => go1 (pc + 1) L (aJ (x <<< (toj b &&& 63)) :: r) σ | _ => none)
  | .lcmp => (match st with | .inr (.inl z) :: .inr (.inl x) :: r => go1 (pc + 1) L (aI (lg_cmp x z).toInt :: r) σ | _ => none)
  | .getfield x => (match st with
    | .inr (.inr (.inl (some (t, i)))) :: r => (match fld (mC y) x with
      | some (c, k) => if fC t = c then (match sK c k with
        | 0 => go1 (pc + 3) L (aI (gI σ t i (k : Int)) :: r) σ
        | 1 => go1 (pc + 3) L (aI (gI σ t i (k : Int)) :: r) σ
        | 2 => go1 (pc + 3) L (aQ (cref t i k) :: r) σ
        | _ => none) else none
      | none => none)
    | _ => none)
  | .putfield x => (match st with
    | .inl v :: .inr (.inr (.inl (some (t, i)))) :: r => (match fld (mC y) x with
      | some (c, k) => if fC t = c then (match sK c k with
        | 0 => go1 (pc + 3) L r (uI σ t i (k : Int) v)
        | 1 => if isB v = true then go1 (pc + 3) L r (uI σ t i (k : Int) v) else none
        | _ => none) else none
      | none => none)
    | _ => none)
  | .arraylength => (match st with | .inr (.inr (.inl (some (t, _)))) :: r => if fC t = 99 ∧ inr32 (aLen σ t) = true then go1 (pc + 1) L (aI (aLen σ t) :: r) σ else none | _ => none)
  | .iaload => (match st with | .inl a :: .inr (.inr (.inl (some (t, i)))) :: r => ldA t i a σ 0 pc L r (aI (gI σ t i a)) | _ => none)
  | .baload => (match st with | .inl a :: .inr (.inr (.inl (some (t, i)))) :: r => ldA t i a σ 2 pc L r (aI (gI σ t i a)) | _ => none)
  | .laload => (match st with | .inl a :: .inr (.inr (.inl (some (t, i)))) :: r => ldA t i a σ 1 pc L r (aJ (gL σ t i a)) | _ => none)
  | .aaload => (match st with | .inl a :: .inr (.inr (.inl (some (t, i)))) :: r => if 3 ≤ fT t ∧ fT t ≤ 5 ∧ (0 ≤ a ∧ a < aLen σ t) then go1 (pc + 1) L (aQ (aref σ t i a) :: r) σ else none | _ => none)
  | .iastore => (match st with | .inl v :: .inl a :: .inr (.inr (.inl (some (t, i)))) :: r => if fT t = 0 ∧ t ≠ 34 ∧ (0 ≤ a ∧ a < aLen σ t) then go1 (pc + 1) L r (uI σ t i a v) else none | _ => none)
  | .bastore => (match st with | .inl v :: .inl a :: .inr (.inr (.inl (some (t, i)))) :: r => if fT t = 2 ∧ isB v = true ∧ (0 ≤ a ∧ a < aLen σ t) then go1 (pc + 1) L r (uI σ t i a v) else none | _ => none)
  | .lastore => (match st with | .inr (.inl v) :: .inl a :: .inr (.inr (.inl (some (t, i)))) :: r => if fT t = 1 ∧ (0 ≤ a ∧ a < aLen σ t) then go1 (pc + 1) L r (uL σ t i a v) else none | _ => none)
  | .aastore => (match st with | .inr (.inr (.inl (some (t2, i2)))) :: .inl a :: .inr (.inr (.inl (some (t, _)))) :: r => if t = 17 ∧ t2 = 8 ∧ (0 ≤ a ∧ a < aLen σ t) then go1 (pc + 1) L r (uR σ a (some (t2, i2))) else none | _ => none)
  | .if_icmp k off => (match st with | .inl b :: .inl a :: r => brn pc off (bcnd k a b) L r σ | _ => none)
  | .ifCond k off => (match st with | .inl a :: r => brn pc off (bcnd k a 0) L r σ | _ => none)
  | .if_acmp k off => (match st with | .inr (.inr (.inl q2)) :: .inr (.inr (.inl q1)) :: r => (match k with | .ne => brn pc off (!decide (q1 = q2)) L r σ | .eq => none) | _ => none)
  | .ifnull off => (match st with | .inr (.inr (.inl q)) :: r => brn pc off (q.isNone) L r σ | _ => none)
  | .ifnonnull off => (match st with | .inr (.inr (.inl q)) :: r => brn pc off (q.isSome) L r σ | _ => none)
  | .goto off => (match tg pc off with | some t => go1 t L st σ | none => none)
  | .tableswitch dflt lo hi offs => (match st with
    | .inl a :: r => (if a < lo ∨ hi < a then (match tg pc dflt with | some t => go1 t L r σ | none => none)
      else (match offs[(a - lo).toNat]? with | some off => (match tg pc off with | some t => go1 t L r σ | none => none) | none => none))
    | _ => none)
  | .invokevirtual x => call y x pc 0 L st σ
  | .invokestatic x => call y x pc 1 L st σ
  | .ireturn => (match st with | [.inl a] => (match mRt y with | some .int => some (.inr (.inl (some (aI a), σ))) | some .boolean => if isB a = true then some (.inr (.inl (some (aI a), σ))) else none | _ => none) | _ => none)
  | .lreturn => (match st with | [.inr (.inl a)] => (match mRt y with | some .long => some (.inr (.inl (some (aJ a), σ))) | _ => none) | _ => none)
  | .areturn => (match st with | [.inr (.inr (.inl q))] => (match mRt y with | some (.object _) => some (.inr (.inl (some (aQ q), σ))) | _ => none) | _ => none)
  | .return_ => (match st with | [] => (match mRt y with | none => some (.inr (.inl (none, σ))) | _ => none) | _ => none)
  | _ => none
/-- an instruction's length (0: a switch's, which its step doesn't use) -/
def ilen (i : Instr) : Nat := match i with
  | .aload _ | .iload _ | .istore _ | .astore _ | .bipush _ | .ldc _ => 2
  | .iinc _ _ | .sipush _ | .ldc_w _ | .ldc2_w _ | .getfield _ | .putfield _ | .if_icmp _ _ | .ifCond _ _ | .if_acmp _ _ | .ifnull _ | .ifnonnull _ | .goto _ | .invokevirtual _ | .invokestatic _ => 3
  | .tableswitch _ _ _ _ => 0
  | _ => 1
def fetch (y pc : Nat) : Option Instr := match decode (mCd y) pc with
  | .ok (i, n) => if ilen i = 0 ∨ n = ilen i then some i else none
  | .error _ => none
def runF : Nat → Nat → aG → Option (Option AV × aM)
  | 0, _, _ => none
  | n + 1, y, (pc, L, st, σ) => match fetch y pc with
    | none => none
    | some i => match stp y i pc L st σ with
      | none => none
      | some (.inl c) => runF n y c
      | some (.inr (.inl r)) => some r
      | some (.inr (.inr (y', as, (pc', L', r, σ')))) => match runF n y' (0, lay0 y' as, [], σ') with
        | none => none
        | some (v, σ'') => runF n y (pc', L', v.toList ++ r, σ'')
theorem runF_succ : ∀ (n y : Nat) (c : aG) (r : Option AV × aM), runF n y c = some r → runF (n + 1) y c = some r := by
  intro n
  induction n with
  | zero => intro y c r h; cases h
  | succ n ih =>
    intro y c r h
    obtain ⟨pc, L, st, σ⟩ := c
    rw [runF] at h ⊢
    cases hf : fetch y pc with
    | none => rw [hf] at h; cases h
    | some i =>
      rw [hf] at h
      dsimp only at h ⊢
      cases hs : stp y i pc L st σ with
      | none => rw [hs] at h; cases h
      | some q =>
        rw [hs] at h
        obtain c | r' | ⟨y', as, pc', L', r', σ'⟩ := q
        · exact ih y c r h
        · exact h
        · dsimp only at h ⊢
          cases hc : runF n y' (0, lay0 y' as, [], σ') with
          | none => rw [hc] at h; cases h
          | some p =>
            rw [hc] at h
            rw [ih _ _ _ hc]
            exact ih _ _ _ h
theorem runF_le {n k : Nat} (hk : n ≤ k) {y : Nat} {c : aG} {r : Option AV × aM} (h : runF n y c = some r) : runF k y c = some r := by
  induction hk with
  | refl => exact h
  | step _ ih => exact runF_succ _ _ _ _ ih
/-- what a run comes to -/
noncomputable def ev (y pc : Nat) (L st : List AV) (σ : aM) : Option (Option AV × aM) :=
  @dite _ (∃ (r : Option AV × aM) (n : Nat), runF n y (pc, L, st, σ) = some r) (Classical.propDecidable _) (fun h => some h.choose) (fun _ => none)
theorem ev_iff {y pc : Nat} {L st : List AV} {σ : aM} {r : Option AV × aM} : ev y pc L st σ = some r ↔ ∃ n, runF n y (pc, L, st, σ) = some r := by
  unfold ev
  split
  · rename_i h
    constructor
    · intro e
      cases e
      exact h.choose_spec
    · rintro ⟨n, hn⟩
      obtain ⟨k, hk⟩ := h.choose_spec
      have h1 := runF_le (Nat.le_max_left n k) hn
      have h2 := runF_le (Nat.le_max_right n k) hk
      rw [h1] at h2
      exact h2.symm
  · rename_i h
    constructor
    · intro e; cases e
    · rintro ⟨n, hn⟩
      exact absurd ⟨r, n, hn⟩ h
theorem ev_ext {y pc : Nat} {L st : List AV} {σ : aM} {y2 pc2 : Nat} {L2 st2 : List AV} {σ2 : aM} (h : ∀ r, (∃ n, runF n y (pc, L, st, σ) = some r) ↔ ∃ n, runF n y2 (pc2, L2, st2, σ2) = some r) : ev y pc L st σ = ev y2 pc2 L2 st2 σ2 := by
  cases h1 : ev y2 pc2 L2 st2 σ2 with
  | some r => exact ev_iff.mpr ((h r).mpr (ev_iff.mp h1))
  | none =>
    cases h2 : ev y pc L st σ with
    | none => rfl
    | some r =>
      have h3 := ev_iff.mpr ((h r).mp (ev_iff.mp h2))
      rw [h1] at h3
      cases h3
theorem ev_go {y pc : Nat} {L st : List AV} {σ : aM} {i : Instr} {pc' : Nat} {L' st' : List AV} {σ' : aM} (hd : fetch y pc = some i) (hs : stp y i pc L st σ = go1 pc' L' st' σ') : ev y pc L st σ = ev y pc' L' st' σ' := by
  refine ev_ext fun r => ⟨?_, ?_⟩
  · rintro ⟨n, h⟩
    cases n with
    | zero => cases h
    | succ n =>
      rw [runF, hd] at h
      dsimp only at h
      rw [hs] at h
      exact ⟨n, h⟩
  · rintro ⟨n, h⟩
    refine ⟨n + 1, ?_⟩
    rw [runF, hd]
    dsimp only
    rw [hs]
    exact h
theorem ev_ret {y pc : Nat} {L st : List AV} {σ : aM} {i : Instr} {r : Option AV × aM} (hd : fetch y pc = some i) (hs : stp y i pc L st σ = some (.inr (.inl r))) : ev y pc L st σ = some r := by
  refine ev_iff.mpr ⟨1, ?_⟩
  rw [runF, hd]
  dsimp only
  rw [hs]
/-- behind a call -/
noncomputable def evK (y pc : Nat) (L r : List AV) (q : Option (Option AV × aM)) : Option (Option AV × aM) := match q with
  | none => none
  | some (v, σ) => ev y pc L (v.toList ++ r) σ
theorem evK_i (y pc : Nat) (L r : List AV) (v : AV) (σ : aM) : evK y pc L r (some (some v, σ)) = ev y pc L (v :: r) σ := rfl
theorem evK_v (y pc : Nat) (L r : List AV) (σ : aM) : evK y pc L r (some (none, σ)) = ev y pc L r σ := rfl
theorem ev_call {y pc : Nat} {L st : List AV} {σ : aM} {i : Instr} {y' : Nat} {as : List AV} {pc' : Nat} {L' r : List AV} {L0 : List AV} (hd : fetch y pc = some i) (hs : stp y i pc L st σ = some (.inr (.inr (y', as, (pc', L', r, σ))))) (h0 : lay0 y' as = L0) : ev y pc L st σ = evK y pc' L' r (ev y' 0 L0 [] σ) := by
  subst h0
  have key : ∀ q, ev y pc L st σ = some q ↔ evK y pc' L' r (ev y' 0 (lay0 y' as) [] σ) = some q := by
    intro q
    constructor
    · intro h
      obtain ⟨n, h⟩ := ev_iff.mp h
      cases n with
      | zero => cases h
      | succ n =>
        rw [runF, hd] at h
        dsimp only at h
        rw [hs] at h
        dsimp only at h
        cases hc : runF n y' (0, lay0 y' as, [], σ) with
        | none => rw [hc] at h; cases h
        | some p =>
          rw [hc] at h
          rw [ev_iff.mpr ⟨n, hc⟩]
          exact ev_iff.mpr ⟨n, h⟩
    · intro h
      cases hc : ev y' 0 (lay0 y' as) [] σ with
      | none => rw [hc] at h; cases h
      | some p =>
        rw [hc] at h
        obtain ⟨v, σ''⟩ := p
        obtain ⟨n, h⟩ := ev_iff.mp h
        obtain ⟨k, hk⟩ := ev_iff.mp hc
        refine ev_iff.mpr ⟨max n k + 1, ?_⟩
        rw [runF, hd]
        dsimp only
        rw [hs]
        dsimp only
        rw [runF_le (Nat.le_max_right n k) hk]
        exact runF_le (Nat.le_max_left n k) h
  cases h1 : evK y pc' L' r (ev y' 0 (lay0 y' as) [] σ) with
  | some q => exact (key q).mpr h1
  | none =>
    cases h2 : ev y pc L st σ with
    | none => rfl
    | some q => rw [(key q).mp h2] at h1; cases h1
end
