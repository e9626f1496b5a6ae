section
-- ===== PART A: goes FIRST, ahead of the names: the tables' words, and 'selects' of the private methods out of them =====
/-- a private method of a class that the tables say can be made, by its rows of tables_1 -/
def lw_okq (q : MethodName × Nat) : Prop := (q.1.cls ≠ "java/lang/invoke/MethodHandle" ∧ q.1.cls ≠ "java/lang/invoke/VarHandle") ∧ Cond.instantiable q.1.cls q.2 ∈ tables_1 ∧ Cond.privateMethod q.1 ∈ tables_1 ∧ Cond.instanceMethod q.1 ∈ tables_1
theorem lw_p0 : lw_okq (⟨"UncrossedBook", "refuse", "(I)I"⟩, 10) := ⟨⟨by decide +kernel, by decide +kernel⟩, List.mem_of_getElem? (i := 15) (by decide +kernel), List.mem_of_getElem? (i := 322) (by decide +kernel), List.mem_of_getElem? (i := 323) (by decide +kernel)⟩
theorem lw_p1 : lw_okq (⟨"UncrossedBook", "reasonAgainstRow", "(I)I"⟩, 10) := ⟨⟨by decide +kernel, by decide +kernel⟩, List.mem_of_getElem? (i := 15) (by decide +kernel), List.mem_of_getElem? (i := 341) (by decide +kernel), List.mem_of_getElem? (i := 342) (by decide +kernel)⟩
theorem lw_p2 : lw_okq (⟨"UncrossedBook", "reasonAgainstComer", "(IIZ)I"⟩, 10) := ⟨⟨by decide +kernel, by decide +kernel⟩, List.mem_of_getElem? (i := 15) (by decide +kernel), List.mem_of_getElem? (i := 438) (by decide +kernel), List.mem_of_getElem? (i := 439) (by decide +kernel)⟩
theorem lw_p3 : lw_okq (⟨"UncrossedBook$Desk", "enter", "(LUncrossedBook$Order;)V"⟩, 2) := ⟨⟨by decide +kernel, by decide +kernel⟩, List.mem_of_getElem? (i := 25) (by decide +kernel), List.mem_of_getElem? (i := 471) (by decide +kernel), List.mem_of_getElem? (i := 472) (by decide +kernel)⟩
theorem lw_p4 : lw_okq (⟨"UncrossedBook$Desk", "goIn", "(LUncrossedBook$Order;I)V"⟩, 2) := ⟨⟨by decide +kernel, by decide +kernel⟩, List.mem_of_getElem? (i := 25) (by decide +kernel), List.mem_of_getElem? (i := 475) (by decide +kernel), List.mem_of_getElem? (i := 476) (by decide +kernel)⟩
theorem lw_p5 : lw_okq (⟨"UncrossedBook$Desk", "meetOwn", "(LUncrossedBook$Order;LUncrossedBook$Order;)V"⟩, 2) := ⟨⟨by decide +kernel, by decide +kernel⟩, List.mem_of_getElem? (i := 25) (by decide +kernel), List.mem_of_getElem? (i := 486) (by decide +kernel), List.mem_of_getElem? (i := 487) (by decide +kernel)⟩
theorem lw_p6 : lw_okq (⟨"UncrossedBook$Desk", "meet", "(LUncrossedBook$Order;LUncrossedBook$Order;)V"⟩, 2) := ⟨⟨by decide +kernel, by decide +kernel⟩, List.mem_of_getElem? (i := 25) (by decide +kernel), List.mem_of_getElem? (i := 498) (by decide +kernel), List.mem_of_getElem? (i := 499) (by decide +kernel)⟩
theorem lw_p7 : lw_okq (⟨"UncrossedBook$Desk", "tradeAway", "(LUncrossedBook$Order;LUncrossedBook$Order;II)V"⟩, 2) := ⟨⟨by decide +kernel, by decide +kernel⟩, List.mem_of_getElem? (i := 25) (by decide +kernel), List.mem_of_getElem? (i := 503) (by decide +kernel), List.mem_of_getElem? (i := 504) (by decide +kernel)⟩
theorem lw_p8 : lw_okq (⟨"UncrossedBook$Desk", "comeRound", "(LUncrossedBook$Order;I)V"⟩, 2) := ⟨⟨by decide +kernel, by decide +kernel⟩, List.mem_of_getElem? (i := 25) (by decide +kernel), List.mem_of_getElem? (i := 515) (by decide +kernel), List.mem_of_getElem? (i := 516) (by decide +kernel)⟩
theorem lw_p9 : lw_okq (⟨"UncrossedBook$Desk", "tryAtOnce", "(LUncrossedBook$Order;I)V"⟩, 2) := ⟨⟨by decide +kernel, by decide +kernel⟩, List.mem_of_getElem? (i := 25) (by decide +kernel), List.mem_of_getElem? (i := 521) (by decide +kernel), List.mem_of_getElem? (i := 522) (by decide +kernel)⟩
theorem lw_p10 : lw_okq (⟨"UncrossedBook$Desk", "thereIsEnoughFor", "(LUncrossedBook$Order;)Z"⟩, 2) := ⟨⟨by decide +kernel, by decide +kernel⟩, List.mem_of_getElem? (i := 25) (by decide +kernel), List.mem_of_getElem? (i := 525) (by decide +kernel), List.mem_of_getElem? (i := 526) (by decide +kernel)⟩
theorem lw_p11 : lw_okq (⟨"UncrossedBook$Desk", "wakeStops", "()V"⟩, 2) := ⟨⟨by decide +kernel, by decide +kernel⟩, List.mem_of_getElem? (i := 25) (by decide +kernel), List.mem_of_getElem? (i := 535) (by decide +kernel), List.mem_of_getElem? (i := 536) (by decide +kernel)⟩
theorem lw_p12 : lw_okq (⟨"UncrossedBook$Desk", "firstReachedStop", "()LUncrossedBook$Order;"⟩, 2) := ⟨⟨by decide +kernel, by decide +kernel⟩, List.mem_of_getElem? (i := 25) (by decide +kernel), List.mem_of_getElem? (i := 539) (by decide +kernel), List.mem_of_getElem? (i := 540) (by decide +kernel)⟩
theorem lw_p13 : lw_okq (⟨"UncrossedBook$Desk", "isReached", "(LUncrossedBook$Order;)Z"⟩, 2) := ⟨⟨by decide +kernel, by decide +kernel⟩, List.mem_of_getElem? (i := 25) (by decide +kernel), List.mem_of_getElem? (i := 543) (by decide +kernel), List.mem_of_getElem? (i := 544) (by decide +kernel)⟩
theorem lw_p14 : lw_okq (⟨"UncrossedBook$TextReader", "takeItem", "(LUncrossedBook$Shelf;)V"⟩, 8) := ⟨⟨by decide +kernel, by decide +kernel⟩, List.mem_of_getElem? (i := 221) (by decide +kernel), List.mem_of_getElem? (i := 578) (by decide +kernel), List.mem_of_getElem? (i := 579) (by decide +kernel)⟩
theorem lw_p15 : lw_okq (⟨"UncrossedBook$TextReader", "takeBetween", "(LUncrossedBook$Shelf;II)I"⟩, 8) := ⟨⟨by decide +kernel, by decide +kernel⟩, List.mem_of_getElem? (i := 221) (by decide +kernel), List.mem_of_getElem? (i := 582) (by decide +kernel), List.mem_of_getElem? (i := 583) (by decide +kernel)⟩
def lw_privs_1 : List (MethodName × Nat) := [(⟨"UncrossedBook", "refuse", "(I)I"⟩, 10), (⟨"UncrossedBook", "reasonAgainstRow", "(I)I"⟩, 10), (⟨"UncrossedBook", "reasonAgainstComer", "(IIZ)I"⟩, 10), (⟨"UncrossedBook$Desk", "enter", "(LUncrossedBook$Order;)V"⟩, 2), (⟨"UncrossedBook$Desk", "goIn", "(LUncrossedBook$Order;I)V"⟩, 2), (⟨"UncrossedBook$Desk", "meetOwn", "(LUncrossedBook$Order;LUncrossedBook$Order;)V"⟩, 2), (⟨"UncrossedBook$Desk", "meet", "(LUncrossedBook$Order;LUncrossedBook$Order;)V"⟩, 2), (⟨"UncrossedBook$Desk", "tradeAway", "(LUncrossedBook$Order;LUncrossedBook$Order;II)V"⟩, 2), (⟨"UncrossedBook$Desk", "comeRound", "(LUncrossedBook$Order;I)V"⟩, 2), (⟨"UncrossedBook$Desk", "tryAtOnce", "(LUncrossedBook$Order;I)V"⟩, 2), (⟨"UncrossedBook$Desk", "thereIsEnoughFor", "(LUncrossedBook$Order;)Z"⟩, 2), (⟨"UncrossedBook$Desk", "wakeStops", "()V"⟩, 2), (⟨"UncrossedBook$Desk", "firstReachedStop", "()LUncrossedBook$Order;"⟩, 2), (⟨"UncrossedBook$Desk", "isReached", "(LUncrossedBook$Order;)Z"⟩, 2), (⟨"UncrossedBook$TextReader", "takeItem", "(LUncrossedBook$Shelf;)V"⟩, 8), (⟨"UncrossedBook$TextReader", "takeBetween", "(LUncrossedBook$Shelf;II)I"⟩, 8)]
theorem lw_r1 : ∀ q ∈ lw_privs_1, lw_okq q := List.forall_mem_cons.mpr ⟨lw_p0, List.forall_mem_cons.mpr ⟨lw_p1, List.forall_mem_cons.mpr ⟨lw_p2, List.forall_mem_cons.mpr ⟨lw_p3, List.forall_mem_cons.mpr ⟨lw_p4, List.forall_mem_cons.mpr ⟨lw_p5, List.forall_mem_cons.mpr ⟨lw_p6, List.forall_mem_cons.mpr ⟨lw_p7, List.forall_mem_cons.mpr ⟨lw_p8, List.forall_mem_cons.mpr ⟨lw_p9, List.forall_mem_cons.mpr ⟨lw_p10, List.forall_mem_cons.mpr ⟨lw_p11, List.forall_mem_cons.mpr ⟨lw_p12, List.forall_mem_cons.mpr ⟨lw_p13, List.forall_mem_cons.mpr ⟨lw_p14, List.forall_mem_cons.mpr ⟨lw_p15, fun _ h => absurd h List.not_mem_nil⟩⟩⟩⟩⟩⟩⟩⟩⟩⟩⟩⟩⟩⟩⟩⟩
theorem lw_p16 : lw_okq (⟨"UncrossedBook$TextReader", "signAt", "(LUncrossedBook$Shelf;)I"⟩, 8) := ⟨⟨by decide +kernel, by decide +kernel⟩, List.mem_of_getElem? (i := 221) (by decide +kernel), List.mem_of_getElem? (i := 586) (by decide +kernel), List.mem_of_getElem? (i := 587) (by decide +kernel)⟩
theorem lw_p17 : lw_okq (⟨"UncrossedBook$TextReader", "takeSign", "(LUncrossedBook$Shelf;I)V"⟩, 8) := ⟨⟨by decide +kernel, by decide +kernel⟩, List.mem_of_getElem? (i := 221) (by decide +kernel), List.mem_of_getElem? (i := 594) (by decide +kernel), List.mem_of_getElem? (i := 595) (by decide +kernel)⟩
theorem lw_p18 : lw_okq (⟨"UncrossedBook$TextReader", "takeNumber", "(LUncrossedBook$Shelf;)I"⟩, 8) := ⟨⟨by decide +kernel, by decide +kernel⟩, List.mem_of_getElem? (i := 221) (by decide +kernel), List.mem_of_getElem? (i := 598) (by decide +kernel), List.mem_of_getElem? (i := 599) (by decide +kernel)⟩
theorem lw_p19 : lw_okq (⟨"UncrossedBook$TextReader", "isDigitNext", "(LUncrossedBook$Shelf;)Z"⟩, 8) := ⟨⟨by decide +kernel, by decide +kernel⟩, List.mem_of_getElem? (i := 221) (by decide +kernel), List.mem_of_getElem? (i := 602) (by decide +kernel), List.mem_of_getElem? (i := 603) (by decide +kernel)⟩
theorem lw_p20 : lw_okq (⟨"UncrossedBook$Auction", "gather", "(LUncrossedBook$Book;)I"⟩, 4) := ⟨⟨by decide +kernel, by decide +kernel⟩, List.mem_of_getElem? (i := 183) (by decide +kernel), List.mem_of_getElem? (i := 639) (by decide +kernel), List.mem_of_getElem? (i := 640) (by decide +kernel)⟩
theorem lw_p21 : lw_okq (⟨"UncrossedBook", "refuseApart", "(I)I"⟩, 10) := ⟨⟨by decide +kernel, by decide +kernel⟩, List.mem_of_getElem? (i := 15) (by decide +kernel), List.mem_of_getElem? (i := 675) (by decide +kernel), List.mem_of_getElem? (i := 676) (by decide +kernel)⟩
theorem lw_p22 : lw_okq (⟨"UncrossedBook$Ranking", "placeIn", "(LUncrossedBook$Order;I)V"⟩, 3) := ⟨⟨by decide +kernel, by decide +kernel⟩, List.mem_of_getElem? (i := 204) (by decide +kernel), List.mem_of_getElem? (i := 686) (by decide +kernel), List.mem_of_getElem? (i := 687) (by decide +kernel)⟩
theorem lw_p23 : lw_okq (⟨"UncrossedBookModel", "refused", "(I)I"⟩, 23) := ⟨⟨by decide +kernel, by decide +kernel⟩, List.mem_of_getElem? (i := 802) (by decide +kernel), List.mem_of_getElem? (i := 888) (by decide +kernel), List.mem_of_getElem? (i := 889) (by decide +kernel)⟩
theorem lw_p24 : lw_okq (⟨"UncrossedBookModel", "wanted", "(I)I"⟩, 23) := ⟨⟨by decide +kernel, by decide +kernel⟩, List.mem_of_getElem? (i := 802) (by decide +kernel), List.mem_of_getElem? (i := 896) (by decide +kernel), List.mem_of_getElem? (i := 897) (by decide +kernel)⟩
theorem lw_p25 : lw_okq (⟨"UncrossedBookModel", "isRow", "(I)Z"⟩, 23) := ⟨⟨by decide +kernel, by decide +kernel⟩, List.mem_of_getElem? (i := 802) (by decide +kernel), List.mem_of_getElem? (i := 908) (by decide +kernel), List.mem_of_getElem? (i := 909) (by decide +kernel)⟩
theorem lw_p26 : lw_okq (⟨"UncrossedBookModel", "isOrder", "(I)Z"⟩, 23) := ⟨⟨by decide +kernel, by decide +kernel⟩, List.mem_of_getElem? (i := 802) (by decide +kernel), List.mem_of_getElem? (i := 916) (by decide +kernel), List.mem_of_getElem? (i := 917) (by decide +kernel)⟩
theorem lw_p27 : lw_okq (⟨"UncrossedBookModel", "wantedOrder", "(IIZ)I"⟩, 23) := ⟨⟨by decide +kernel, by decide +kernel⟩, List.mem_of_getElem? (i := 802) (by decide +kernel), List.mem_of_getElem? (i := 931) (by decide +kernel), List.mem_of_getElem? (i := 932) (by decide +kernel)⟩
theorem lw_p28 : lw_okq (⟨"UncrossedBookModel", "comes", "(IIIIII)I"⟩, 23) := ⟨⟨by decide +kernel, by decide +kernel⟩, List.mem_of_getElem? (i := 802) (by decide +kernel), List.mem_of_getElem? (i := 941) (by decide +kernel), List.mem_of_getElem? (i := 942) (by decide +kernel)⟩
theorem lw_p29 : lw_okq (⟨"UncrossedBookModel", "limitComes", "(II)V"⟩, 23) := ⟨⟨by decide +kernel, by decide +kernel⟩, List.mem_of_getElem? (i := 802) (by decide +kernel), List.mem_of_getElem? (i := 945) (by decide +kernel), List.mem_of_getElem? (i := 946) (by decide +kernel)⟩
theorem lw_p30 : lw_okq (⟨"UncrossedBookModel", "rests", "(I)V"⟩, 23) := ⟨⟨by decide +kernel, by decide +kernel⟩, List.mem_of_getElem? (i := 802) (by decide +kernel), List.mem_of_getElem? (i := 949) (by decide +kernel), List.mem_of_getElem? (i := 950) (by decide +kernel)⟩
theorem lw_p31 : lw_okq (⟨"UncrossedBookModel", "nextTime", "()I"⟩, 23) := ⟨⟨by decide +kernel, by decide +kernel⟩, List.mem_of_getElem? (i := 802) (by decide +kernel), List.mem_of_getElem? (i := 953) (by decide +kernel), List.mem_of_getElem? (i := 954) (by decide +kernel)⟩
def lw_privs_2 : List (MethodName × Nat) := [(⟨"UncrossedBook$TextReader", "signAt", "(LUncrossedBook$Shelf;)I"⟩, 8), (⟨"UncrossedBook$TextReader", "takeSign", "(LUncrossedBook$Shelf;I)V"⟩, 8), (⟨"UncrossedBook$TextReader", "takeNumber", "(LUncrossedBook$Shelf;)I"⟩, 8), (⟨"UncrossedBook$TextReader", "isDigitNext", "(LUncrossedBook$Shelf;)Z"⟩, 8), (⟨"UncrossedBook$Auction", "gather", "(LUncrossedBook$Book;)I"⟩, 4), (⟨"UncrossedBook", "refuseApart", "(I)I"⟩, 10), (⟨"UncrossedBook$Ranking", "placeIn", "(LUncrossedBook$Order;I)V"⟩, 3), (⟨"UncrossedBookModel", "refused", "(I)I"⟩, 23), (⟨"UncrossedBookModel", "wanted", "(I)I"⟩, 23), (⟨"UncrossedBookModel", "isRow", "(I)Z"⟩, 23), (⟨"UncrossedBookModel", "isOrder", "(I)Z"⟩, 23), (⟨"UncrossedBookModel", "wantedOrder", "(IIZ)I"⟩, 23), (⟨"UncrossedBookModel", "comes", "(IIIIII)I"⟩, 23), (⟨"UncrossedBookModel", "limitComes", "(II)V"⟩, 23), (⟨"UncrossedBookModel", "rests", "(I)V"⟩, 23), (⟨"UncrossedBookModel", "nextTime", "()I"⟩, 23)]
theorem lw_r2 : ∀ q ∈ lw_privs_2, lw_okq q := List.forall_mem_cons.mpr ⟨lw_p16, List.forall_mem_cons.mpr ⟨lw_p17, List.forall_mem_cons.mpr ⟨lw_p18, List.forall_mem_cons.mpr ⟨lw_p19, List.forall_mem_cons.mpr ⟨lw_p20, List.forall_mem_cons.mpr ⟨lw_p21, List.forall_mem_cons.mpr ⟨lw_p22, List.forall_mem_cons.mpr ⟨lw_p23, List.forall_mem_cons.mpr ⟨lw_p24, List.forall_mem_cons.mpr ⟨lw_p25, List.forall_mem_cons.mpr ⟨lw_p26, List.forall_mem_cons.mpr ⟨lw_p27, List.forall_mem_cons.mpr ⟨lw_p28, List.forall_mem_cons.mpr ⟨lw_p29, List.forall_mem_cons.mpr ⟨lw_p30, List.forall_mem_cons.mpr ⟨lw_p31, fun _ h => absurd h List.not_mem_nil⟩⟩⟩⟩⟩⟩⟩⟩⟩⟩⟩⟩⟩⟩⟩⟩
theorem lw_p32 : lw_okq (⟨"UncrossedBookModel", "fresh", "(I)V"⟩, 23) := ⟨⟨by decide +kernel, by decide +kernel⟩, List.mem_of_getElem? (i := 802) (by decide +kernel), List.mem_of_getElem? (i := 957) (by decide +kernel), List.mem_of_getElem? (i := 958) (by decide +kernel)⟩
theorem lw_p33 : lw_okq (⟨"UncrossedBookModel", "isEnough", "(I)Z"⟩, 23) := ⟨⟨by decide +kernel, by decide +kernel⟩, List.mem_of_getElem? (i := 802) (by decide +kernel), List.mem_of_getElem? (i := 961) (by decide +kernel), List.mem_of_getElem? (i := 962) (by decide +kernel)⟩
theorem lw_p34 : lw_okq (⟨"UncrossedBookModel", "isRanked", "(II)Z"⟩, 23) := ⟨⟨by decide +kernel, by decide +kernel⟩, List.mem_of_getElem? (i := 802) (by decide +kernel), List.mem_of_getElem? (i := 965) (by decide +kernel), List.mem_of_getElem? (i := 966) (by decide +kernel)⟩
theorem lw_p35 : lw_okq (⟨"UncrossedBookModel", "priceOf", "(I)I"⟩, 23) := ⟨⟨by decide +kernel, by decide +kernel⟩, List.mem_of_getElem? (i := 802) (by decide +kernel), List.mem_of_getElem? (i := 969) (by decide +kernel), List.mem_of_getElem? (i := 970) (by decide +kernel)⟩
theorem lw_p36 : lw_okq (⟨"UncrossedBookModel", "doesRest", "(I)Z"⟩, 23) := ⟨⟨by decide +kernel, by decide +kernel⟩, List.mem_of_getElem? (i := 802) (by decide +kernel), List.mem_of_getElem? (i := 973) (by decide +kernel), List.mem_of_getElem? (i := 974) (by decide +kernel)⟩
theorem lw_p37 : lw_okq (⟨"UncrossedBookModel", "isLimit", "(I)Z"⟩, 23) := ⟨⟨by decide +kernel, by decide +kernel⟩, List.mem_of_getElem? (i := 802) (by decide +kernel), List.mem_of_getElem? (i := 977) (by decide +kernel), List.mem_of_getElem? (i := 978) (by decide +kernel)⟩
theorem lw_p38 : lw_okq (⟨"UncrossedBookModel", "bestPrice", "(I)I"⟩, 23) := ⟨⟨by decide +kernel, by decide +kernel⟩, List.mem_of_getElem? (i := 802) (by decide +kernel), List.mem_of_getElem? (i := 981) (by decide +kernel), List.mem_of_getElem? (i := 982) (by decide +kernel)⟩
theorem lw_p39 : lw_okq (⟨"UncrossedBookModel", "orderGoesIn", "(IIZ)V"⟩, 23) := ⟨⟨by decide +kernel, by decide +kernel⟩, List.mem_of_getElem? (i := 802) (by decide +kernel), List.mem_of_getElem? (i := 988) (by decide +kernel), List.mem_of_getElem? (i := 989) (by decide +kernel)⟩
theorem lw_p40 : lw_okq (⟨"UncrossedBookModel", "goesIn", "(IIIII)V"⟩, 23) := ⟨⟨by decide +kernel, by decide +kernel⟩, List.mem_of_getElem? (i := 802) (by decide +kernel), List.mem_of_getElem? (i := 992) (by decide +kernel), List.mem_of_getElem? (i := 993) (by decide +kernel)⟩
theorem lw_p41 : lw_okq (⟨"UncrossedBookModel", "firstOf", "(IZ)I"⟩, 23) := ⟨⟨by decide +kernel, by decide +kernel⟩, List.mem_of_getElem? (i := 802) (by decide +kernel), List.mem_of_getElem? (i := 996) (by decide +kernel), List.mem_of_getElem? (i := 997) (by decide +kernel)⟩
theorem lw_p42 : lw_okq (⟨"UncrossedBookModel", "isAheadOf", "(II)Z"⟩, 23) := ⟨⟨by decide +kernel, by decide +kernel⟩, List.mem_of_getElem? (i := 802) (by decide +kernel), List.mem_of_getElem? (i := 1000) (by decide +kernel), List.mem_of_getElem? (i := 1001) (by decide +kernel)⟩
theorem lw_p43 : lw_okq (⟨"UncrossedBookModel", "meets", "(I)V"⟩, 23) := ⟨⟨by decide +kernel, by decide +kernel⟩, List.mem_of_getElem? (i := 802) (by decide +kernel), List.mem_of_getElem? (i := 1004) (by decide +kernel), List.mem_of_getElem? (i := 1005) (by decide +kernel)⟩
theorem lw_p44 : lw_okq (⟨"UncrossedBookModel", "seenOf", "(I)I"⟩, 23) := ⟨⟨by decide +kernel, by decide +kernel⟩, List.mem_of_getElem? (i := 802) (by decide +kernel), List.mem_of_getElem? (i := 1008) (by decide +kernel), List.mem_of_getElem? (i := 1009) (by decide +kernel)⟩
theorem lw_p45 : lw_okq (⟨"UncrossedBookModel", "loses", "(II)V"⟩, 23) := ⟨⟨by decide +kernel, by decide +kernel⟩, List.mem_of_getElem? (i := 802) (by decide +kernel), List.mem_of_getElem? (i := 1012) (by decide +kernel), List.mem_of_getElem? (i := 1013) (by decide +kernel)⟩
theorem lw_p46 : lw_okq (⟨"UncrossedBookModel", "pays", "(III)V"⟩, 23) := ⟨⟨by decide +kernel, by decide +kernel⟩, List.mem_of_getElem? (i := 802) (by decide +kernel), List.mem_of_getElem? (i := 1016) (by decide +kernel), List.mem_of_getElem? (i := 1017) (by decide +kernel)⟩
theorem lw_p47 : lw_okq (⟨"UncrossedBookModel", "notes", "(IIII)V"⟩, 23) := ⟨⟨by decide +kernel, by decide +kernel⟩, List.mem_of_getElem? (i := 802) (by decide +kernel), List.mem_of_getElem? (i := 1020) (by decide +kernel), List.mem_of_getElem? (i := 1021) (by decide +kernel)⟩
def lw_privs_3 : List (MethodName × Nat) := [(⟨"UncrossedBookModel", "fresh", "(I)V"⟩, 23), (⟨"UncrossedBookModel", "isEnough", "(I)Z"⟩, 23), (⟨"UncrossedBookModel", "isRanked", "(II)Z"⟩, 23), (⟨"UncrossedBookModel", "priceOf", "(I)I"⟩, 23), (⟨"UncrossedBookModel", "doesRest", "(I)Z"⟩, 23), (⟨"UncrossedBookModel", "isLimit", "(I)Z"⟩, 23), (⟨"UncrossedBookModel", "bestPrice", "(I)I"⟩, 23), (⟨"UncrossedBookModel", "orderGoesIn", "(IIZ)V"⟩, 23), (⟨"UncrossedBookModel", "goesIn", "(IIIII)V"⟩, 23), (⟨"UncrossedBookModel", "firstOf", "(IZ)I"⟩, 23), (⟨"UncrossedBookModel", "isAheadOf", "(II)Z"⟩, 23), (⟨"UncrossedBookModel", "meets", "(I)V"⟩, 23), (⟨"UncrossedBookModel", "seenOf", "(I)I"⟩, 23), (⟨"UncrossedBookModel", "loses", "(II)V"⟩, 23), (⟨"UncrossedBookModel", "pays", "(III)V"⟩, 23), (⟨"UncrossedBookModel", "notes", "(IIII)V"⟩, 23)]
theorem lw_r3 : ∀ q ∈ lw_privs_3, lw_okq q := List.forall_mem_cons.mpr ⟨lw_p32, List.forall_mem_cons.mpr ⟨lw_p33, List.forall_mem_cons.mpr ⟨lw_p34, List.forall_mem_cons.mpr ⟨lw_p35, List.forall_mem_cons.mpr ⟨lw_p36, List.forall_mem_cons.mpr ⟨lw_p37, List.forall_mem_cons.mpr ⟨lw_p38, List.forall_mem_cons.mpr ⟨lw_p39, List.forall_mem_cons.mpr ⟨lw_p40, List.forall_mem_cons.mpr ⟨lw_p41, List.forall_mem_cons.mpr ⟨lw_p42, List.forall_mem_cons.mpr ⟨lw_p43, List.forall_mem_cons.mpr ⟨lw_p44, List.forall_mem_cons.mpr ⟨lw_p45, List.forall_mem_cons.mpr ⟨lw_p46, List.forall_mem_cons.mpr ⟨lw_p47, fun _ h => absurd h List.not_mem_nil⟩⟩⟩⟩⟩⟩⟩⟩⟩⟩⟩⟩⟩⟩⟩⟩
theorem lw_p48 : lw_okq (⟨"UncrossedBookModel", "stops", "()V"⟩, 23) := ⟨⟨by decide +kernel, by decide +kernel⟩, List.mem_of_getElem? (i := 802) (by decide +kernel), List.mem_of_getElem? (i := 1024) (by decide +kernel), List.mem_of_getElem? (i := 1025) (by decide +kernel)⟩
theorem lw_p49 : lw_okq (⟨"UncrossedBookModel", "isReached", "(I)Z"⟩, 23) := ⟨⟨by decide +kernel, by decide +kernel⟩, List.mem_of_getElem? (i := 802) (by decide +kernel), List.mem_of_getElem? (i := 1028) (by decide +kernel), List.mem_of_getElem? (i := 1029) (by decide +kernel)⟩
theorem lw_p50 : lw_okq (⟨"UncrossedBookModel", "goesThrough", "(Z)I"⟩, 23) := ⟨⟨by decide +kernel, by decide +kernel⟩, List.mem_of_getElem? (i := 802) (by decide +kernel), List.mem_of_getElem? (i := 1052) (by decide +kernel), List.mem_of_getElem? (i := 1053) (by decide +kernel)⟩
theorem lw_p51 : lw_okq (⟨"UncrossedBookModel", "item", "(Z)V"⟩, 23) := ⟨⟨by decide +kernel, by decide +kernel⟩, List.mem_of_getElem? (i := 802) (by decide +kernel), List.mem_of_getElem? (i := 1056) (by decide +kernel), List.mem_of_getElem? (i := 1057) (by decide +kernel)⟩
theorem lw_p52 : lw_okq (⟨"UncrossedBookModel", "one", "(II)I"⟩, 23) := ⟨⟨by decide +kernel, by decide +kernel⟩, List.mem_of_getElem? (i := 802) (by decide +kernel), List.mem_of_getElem? (i := 1060) (by decide +kernel), List.mem_of_getElem? (i := 1061) (by decide +kernel)⟩
theorem lw_p53 : lw_okq (⟨"UncrossedBookModel", "here", "()I"⟩, 23) := ⟨⟨by decide +kernel, by decide +kernel⟩, List.mem_of_getElem? (i := 802) (by decide +kernel), List.mem_of_getElem? (i := 1064) (by decide +kernel), List.mem_of_getElem? (i := 1065) (by decide +kernel)⟩
theorem lw_p54 : lw_okq (⟨"UncrossedBookModel", "fails", "(I)V"⟩, 23) := ⟨⟨by decide +kernel, by decide +kernel⟩, List.mem_of_getElem? (i := 802) (by decide +kernel), List.mem_of_getElem? (i := 1068) (by decide +kernel), List.mem_of_getElem? (i := 1069) (by decide +kernel)⟩
theorem lw_p55 : lw_okq (⟨"UncrossedBookModel", "number", "()I"⟩, 23) := ⟨⟨by decide +kernel, by decide +kernel⟩, List.mem_of_getElem? (i := 802) (by decide +kernel), List.mem_of_getElem? (i := 1072) (by decide +kernel), List.mem_of_getElem? (i := 1073) (by decide +kernel)⟩
theorem lw_p56 : lw_okq (⟨"UncrossedBookModel", "isDigit", "()Z"⟩, 23) := ⟨⟨by decide +kernel, by decide +kernel⟩, List.mem_of_getElem? (i := 802) (by decide +kernel), List.mem_of_getElem? (i := 1076) (by decide +kernel), List.mem_of_getElem? (i := 1077) (by decide +kernel)⟩
theorem lw_p57 : lw_okq (⟨"UncrossedBookModel", "isThere", "(I)Z"⟩, 23) := ⟨⟨by decide +kernel, by decide +kernel⟩, List.mem_of_getElem? (i := 802) (by decide +kernel), List.mem_of_getElem? (i := 1088) (by decide +kernel), List.mem_of_getElem? (i := 1089) (by decide +kernel)⟩
theorem lw_p58 : lw_okq (⟨"UncrossedBookModel", "crossPrice", "()I"⟩, 23) := ⟨⟨by decide +kernel, by decide +kernel⟩, List.mem_of_getElem? (i := 802) (by decide +kernel), List.mem_of_getElem? (i := 1104) (by decide +kernel), List.mem_of_getElem? (i := 1105) (by decide +kernel)⟩
theorem lw_p59 : lw_okq (⟨"UncrossedBookModel", "volumeAt", "(I)I"⟩, 23) := ⟨⟨by decide +kernel, by decide +kernel⟩, List.mem_of_getElem? (i := 802) (by decide +kernel), List.mem_of_getElem? (i := 1108) (by decide +kernel), List.mem_of_getElem? (i := 1109) (by decide +kernel)⟩
theorem lw_p60 : lw_okq (⟨"UncrossedBookModel", "crosses", "(II)V"⟩, 23) := ⟨⟨by decide +kernel, by decide +kernel⟩, List.mem_of_getElem? (i := 802) (by decide +kernel), List.mem_of_getElem? (i := 1115) (by decide +kernel), List.mem_of_getElem? (i := 1116) (by decide +kernel)⟩
theorem lw_p61 : lw_okq (⟨"UncrossedBookModel", "crossed", "(II)V"⟩, 23) := ⟨⟨by decide +kernel, by decide +kernel⟩, List.mem_of_getElem? (i := 802) (by decide +kernel), List.mem_of_getElem? (i := 1119) (by decide +kernel), List.mem_of_getElem? (i := 1120) (by decide +kernel)⟩
theorem lw_p62 : lw_okq (⟨"UncrossedBookModel", "manyIn", "(I)I"⟩, 23) := ⟨⟨by decide +kernel, by decide +kernel⟩, List.mem_of_getElem? (i := 802) (by decide +kernel), List.mem_of_getElem? (i := 1127) (by decide +kernel), List.mem_of_getElem? (i := 1128) (by decide +kernel)⟩
theorem lw_p63 : lw_okq (⟨"UncrossedBookModel", "pricedAs", "(I)I"⟩, 23) := ⟨⟨by decide +kernel, by decide +kernel⟩, List.mem_of_getElem? (i := 802) (by decide +kernel), List.mem_of_getElem? (i := 1139) (by decide +kernel), List.mem_of_getElem? (i := 1140) (by decide +kernel)⟩
def lw_privs_4 : List (MethodName × Nat) := [(⟨"UncrossedBookModel", "stops", "()V"⟩, 23), (⟨"UncrossedBookModel", "isReached", "(I)Z"⟩, 23), (⟨"UncrossedBookModel", "goesThrough", "(Z)I"⟩, 23), (⟨"UncrossedBookModel", "item", "(Z)V"⟩, 23), (⟨"UncrossedBookModel", "one", "(II)I"⟩, 23), (⟨"UncrossedBookModel", "here", "()I"⟩, 23), (⟨"UncrossedBookModel", "fails", "(I)V"⟩, 23), (⟨"UncrossedBookModel", "number", "()I"⟩, 23), (⟨"UncrossedBookModel", "isDigit", "()Z"⟩, 23), (⟨"UncrossedBookModel", "isThere", "(I)Z"⟩, 23), (⟨"UncrossedBookModel", "crossPrice", "()I"⟩, 23), (⟨"UncrossedBookModel", "volumeAt", "(I)I"⟩, 23), (⟨"UncrossedBookModel", "crosses", "(II)V"⟩, 23), (⟨"UncrossedBookModel", "crossed", "(II)V"⟩, 23), (⟨"UncrossedBookModel", "manyIn", "(I)I"⟩, 23), (⟨"UncrossedBookModel", "pricedAs", "(I)I"⟩, 23)]
theorem lw_r4 : ∀ q ∈ lw_privs_4, lw_okq q := List.forall_mem_cons.mpr ⟨lw_p48, List.forall_mem_cons.mpr ⟨lw_p49, List.forall_mem_cons.mpr ⟨lw_p50, List.forall_mem_cons.mpr ⟨lw_p51, List.forall_mem_cons.mpr ⟨lw_p52, List.forall_mem_cons.mpr ⟨lw_p53, List.forall_mem_cons.mpr ⟨lw_p54, List.forall_mem_cons.mpr ⟨lw_p55, List.forall_mem_cons.mpr ⟨lw_p56, List.forall_mem_cons.mpr ⟨lw_p57, List.forall_mem_cons.mpr ⟨lw_p58, List.forall_mem_cons.mpr ⟨lw_p59, List.forall_mem_cons.mpr ⟨lw_p60, List.forall_mem_cons.mpr ⟨lw_p61, List.forall_mem_cons.mpr ⟨lw_p62, List.forall_mem_cons.mpr ⟨lw_p63, fun _ h => absurd h List.not_mem_nil⟩⟩⟩⟩⟩⟩⟩⟩⟩⟩⟩⟩⟩⟩⟩⟩
theorem lw_p64 : lw_okq (⟨"UncrossedBookModel", "ranked", "(II)I"⟩, 23) := ⟨⟨by decide +kernel, by decide +kernel⟩, List.mem_of_getElem? (i := 802) (by decide +kernel), List.mem_of_getElem? (i := 1151) (by decide +kernel), List.mem_of_getElem? (i := 1152) (by decide +kernel)⟩
theorem lw_p65 : lw_okq (⟨"UncrossedBookModel", "aheadMany", "(I)I"⟩, 23) := ⟨⟨by decide +kernel, by decide +kernel⟩, List.mem_of_getElem? (i := 802) (by decide +kernel), List.mem_of_getElem? (i := 1155) (by decide +kernel), List.mem_of_getElem? (i := 1156) (by decide +kernel)⟩
theorem lw_p66 : lw_okq (⟨"UncrossedBookModel", "refusedBelow", "(I)I"⟩, 23) := ⟨⟨by decide +kernel, by decide +kernel⟩, List.mem_of_getElem? (i := 802) (by decide +kernel), List.mem_of_getElem? (i := 1159) (by decide +kernel), List.mem_of_getElem? (i := 1160) (by decide +kernel)⟩
theorem lw_p67 : lw_okq (⟨"UncrossedBookModel", "kept", "()I"⟩, 23) := ⟨⟨by decide +kernel, by decide +kernel⟩, List.mem_of_getElem? (i := 802) (by decide +kernel), List.mem_of_getElem? (i := 1184) (by decide +kernel), List.mem_of_getElem? (i := 1185) (by decide +kernel)⟩
theorem lw_p68 : lw_okq (⟨"UncrossedBookModel", "drawn", "(I)I"⟩, 23) := ⟨⟨by decide +kernel, by decide +kernel⟩, List.mem_of_getElem? (i := 802) (by decide +kernel), List.mem_of_getElem? (i := 1206) (by decide +kernel), List.mem_of_getElem? (i := 1207) (by decide +kernel)⟩
def lw_privs_5 : List (MethodName × Nat) := [(⟨"UncrossedBookModel", "ranked", "(II)I"⟩, 23), (⟨"UncrossedBookModel", "aheadMany", "(I)I"⟩, 23), (⟨"UncrossedBookModel", "refusedBelow", "(I)I"⟩, 23), (⟨"UncrossedBookModel", "kept", "()I"⟩, 23), (⟨"UncrossedBookModel", "drawn", "(I)I"⟩, 23)]
theorem lw_r5 : ∀ q ∈ lw_privs_5, lw_okq q := List.forall_mem_cons.mpr ⟨lw_p64, List.forall_mem_cons.mpr ⟨lw_p65, List.forall_mem_cons.mpr ⟨lw_p66, List.forall_mem_cons.mpr ⟨lw_p67, List.forall_mem_cons.mpr ⟨lw_p68, fun _ h => absurd h List.not_mem_nil⟩⟩⟩⟩⟩
def lw_privs : List (MethodName × Nat) := lw_privs_1 ++ (lw_privs_2 ++ (lw_privs_3 ++ (lw_privs_4 ++ (lw_privs_5))))
def lw_tbl : List Cond := k2_sels lw_privs ++ tables_1
theorem lw_privs_ok : ∀ q ∈ lw_privs, lw_okq q := by
  show ∀ q ∈ lw_privs_1 ++ (lw_privs_2 ++ (lw_privs_3 ++ (lw_privs_4 ++ (lw_privs_5)))), lw_okq q
  exact List.forall_mem_append.mpr ⟨lw_r1, List.forall_mem_append.mpr ⟨lw_r2, List.forall_mem_append.mpr ⟨lw_r3, List.forall_mem_append.mpr ⟨lw_r4, lw_r5⟩⟩⟩⟩
end
section
/-! THE SMALL MACHINE: values, memory by families of cells, one step of an instruction, runs with fuel, and what a run comes to -/
abbrev AV : Type := Int ⊕ (Int64 ⊕ (Option (Nat × Int) ⊕ Unit))
abbrev aI (a : Int) : AV := .inl a
abbrev aJ (x : Int64) : AV := .inr (.inl x)
abbrev aQ (q : Option (Nat × Int)) : AV := .inr (.inr (.inl q))
abbrev aR (t : Nat) (i : Int) : AV := .inr (.inr (.inl (some (t, i))))
abbrev aN : AV := .inr (.inr (.inl none))
abbrev aU : AV := .inr (.inr (.inr ()))
/-- wrap-around -/
def wr (a : Int) : Int := (Int32.ofInt a).toInt
/-- ints by family, cell, place; longs; the references of the one row that changes -/
abbrev aM : Type := (Nat → Int → Int → Int) × ((Nat → Int → Int → Int64) × (Int → Option (Nat × Int)))
def gI (σ : aM) (t : Nat) (i j : Int) : Int := σ.1 t i j
def gL (σ : aM) (t : Nat) (i j : Int) : Int64 := σ.2.1 t i j
def gR (σ : aM) (j : Int) : Option (Nat × Int) := σ.2.2 j
def uI (σ : aM) (t : Nat) (i j v : Int) : aM := (fun t' i' j' => if t' = t ∧ i' = i ∧ j' = j then v else gI σ t' i' j', σ.2)
def uL (σ : aM) (t : Nat) (i j : Int) (v : Int64) : aM := (σ.1, fun t' i' j' => if t' = t ∧ i' = i ∧ j' = j then v else gL σ t' i' j', σ.2.2)
def uR (σ : aM) (j : Int) (q : Option (Nat × Int)) : aM := (σ.1, σ.2.1, fun j' => if j' = j then q else gR σ j')
/-- n ints from one row, from a on, to another's places from b on (as they were ahead); longs likewise -/
def kI (σ : aM) (t : Nat) (i a : Int) (t2 : Nat) (i2 b n : Int) : aM := (fun t' i' j' => if t' = t2 ∧ i' = i2 ∧ b ≤ j' ∧ j' < b + n then gI σ t i (j' - b + a) else gI σ t' i' j', σ.2)
def kL (σ : aM) (t : Nat) (i a : Int) (t2 : Nat) (i2 b n : Int) : aM := (σ.1, fun t' i' j' => if t' = t2 ∧ i' = i2 ∧ b ≤ j' ∧ j' < b + n then gL σ t i (j' - b + a) else gL σ t' i' j', σ.2.2)
/-! families: class (99: a row), kind of row (0 int, 1 long, 2 boolean, 3 shelves, 4 orders, 5 the line), length, how many -/
def fams : List (Nat × Nat × Nat × Nat) := [(8, 8, 0, 1), (99, 3, 8, 1), (5, 8, 0, 8), (99, 1, 160, 8), (99, 0, 8, 1), (2, 8, 0, 1), (1, 8, 0, 2), (99, 4, 60, 2), (3, 8, 0, 121), (7, 8, 0, 2), (99, 0, 800, 2), (99, 0, 8, 2), (99, 0, 8, 2), (0, 8, 0, 1), (99, 0, 1000, 1), (99, 0, 1000, 1), (4, 8, 0, 1), (99, 5, 60, 1), (99, 0, 60, 1), (6, 8, 0, 1), (99, 0, 27, 1), (99, 0, 27, 1), (99, 0, 27, 1), (99, 0, 27, 1), (99, 0, 27, 1), (9, 8, 0, 1), (99, 0, 1423, 1), (99, 0, 1423, 1), (99, 0, 8, 1), (99, 0, 8, 1), (99, 0, 8, 1), (99, 1, 1280, 1), (99, 1, 160, 1), (99, 2, 60, 1), (99, 0, 0, 1)]
def fam (t : Nat) : Nat × Nat × Nat × Nat := fams.getD t (98, 9, 0, 0)
def fC (t : Nat) : Nat := (fam t).1
def fT (t : Nat) : Nat := (fam t).2.1
def fL (t : Nat) : Nat := (fam t).2.2.1
def fN (t : Nat) : Nat := (fam t).2.2.2
/-- the script's length stands at its place -1 -/
def aLen (σ : aM) (t : Nat) : Int := if t = 34 then gI σ 34 0 (-1) else (fL t : Int)
/-- a class's slots: 0 int, 1 boolean, 2 a reference that stays, 3 an int that stays -/
def kinds : List (List Nat) := [[2, 2, 0, 0], [2, 2, 0, 0, 0, 0, 0], [2, 2], [3, 0, 0, 0, 0, 0, 0, 0, 0, 0, 0], [2, 2, 0], [2, 0, 0, 0], [2, 2, 2, 2, 2, 0, 0, 0], [2, 2, 2, 0, 0], [2, 2, 2, 2, 2, 2, 2, 2, 1, 0], [0, 2, 2, 1, 2, 2, 2, 2, 2, 0, 0, 0, 0, 1, 1, 0, 0, 1, 0, 0, 0, 0, 2]]
def sK (c k : Nat) : Nat := (kinds.getD c []).getD k 9
/-- where such a reference leads: family, cell (0: the number; 1: the owner's own) -/
def crT : List (List (Nat × Nat × Nat)) := [[(1, 0, 0), (4, 0, 0), (5, 0, 0), (6, 0, 0), (13, 0, 0), (16, 0, 0), (19, 0, 0), (6, 1, 0)], [], [(3, 0, 1)], [], [], [(6, 0, 0), (8, 120, 0)], [(7, 0, 1), (9, 0, 1)], [], [], [(10, 0, 1), (11, 0, 1), (12, 0, 1)], [], [], [], [(14, 0, 0), (15, 0, 0)], [], [], [(17, 0, 0), (18, 0, 0)], [], [], [(20, 0, 0), (21, 0, 0), (22, 0, 0), (23, 0, 0), (24, 0, 0)], [], [], [], [], [], [(0, 0, 0), (26, 0, 0), (27, 0, 0), (0, 0, 0), (28, 0, 0), (29, 0, 0), (30, 0, 0), (31, 0, 0), (32, 0, 0), (0, 0, 0), (0, 0, 0), (0, 0, 0), (0, 0, 0), (0, 0, 0), (0, 0, 0), (0, 0, 0), (0, 0, 0), (0, 0, 0), (0, 0, 0), (0, 0, 0), (0, 0, 0), (0, 0, 0), (33, 0, 0)], [], [], [], [], [], [], [], [], []]
def cref (t : Nat) (i : Int) (k : Nat) : Option (Nat × Int) := match (crT.getD t []).getD k (0, 0, 0) with
  | (t', c, 0) => some (t', (c : Int))
  | (t', _, _ + 1) => some (t', i)
/-- what a row of references holds -/
def aref (σ : aM) (t : Nat) (i j : Int) : Option (Nat × Int) := match fT t with
  | 3 => some (2, j)
  | 4 => some (8, 60 * i + j)
  | _ => gR σ j
/-! methods: class number, name, descriptor, code, locals, type, frames below, words below -/
def clsN : List String := ["UncrossedBook$Auction", "UncrossedBook$Book", "UncrossedBook$Desk", "UncrossedBook$Order", "UncrossedBook$Ranking", "UncrossedBook$Shelf", "UncrossedBook$TextReader", "UncrossedBook$TradeLog", "UncrossedBook", "UncrossedBookModel", "java/util/Arrays", "java/lang/Math", "UncrossedBookLaw"]
def cN (c : Nat) : String := clsN.getD c ""
abbrev aMt : Type := Nat × String × String × ByteArray × Nat × Option FieldType × Nat × Nat
def meths : List aMt := [
  (0, "<init>", "()V", prog_2_method_1_code, 1, none, 0, 0),
  (0, "find", "(LUncrossedBook$Book;)V", prog_2_method_2_code, 10, none, 2, 48),
  (0, "gather", "(LUncrossedBook$Book;)I", prog_2_method_3_code, 5, (some .int), 1, 23),
  (1, "<init>", "()V", prog_3_method_1_code, 2, none, 0, 0),
  (1, "takeOver", "(LUncrossedBook$Book;)V", prog_3_method_2_code, 3, none, 2, 69),
  (1, "orderAt", "(I)LUncrossedBook$Order;", prog_3_method_3_code, 2, (some (.object "UncrossedBook$Order")), 0, 0),
  (1, "giveTime", "(LUncrossedBook$Order;)V", prog_3_method_4_code, 2, none, 0, 0),
  (1, "rest", "(LUncrossedBook$Order;)V", prog_3_method_5_code, 2, none, 2, 68),
  (1, "firstOn", "(I)LUncrossedBook$Order;", prog_3_method_6_code, 5, (some (.object "UncrossedBook$Order")), 1, 23),
  (1, "bestPrice", "(I)I", prog_3_method_7_code, 3, (some .int), 2, 47),
  (1, "priceOf", "(LUncrossedBook$Order;)I", prog_3_method_8_code, 2, (some .int), 3, 69),
  (1, "countIn", "(I)I", prog_3_method_9_code, 4, (some .int), 0, 0),
  (1, "drawBelow", "(I)I", prog_3_method_10_code, 2, (some .int), 0, 0),
  (2, "<init>", "()V", prog_4_method_1_code, 1, none, 0, 0),
  (2, "bring", "(IIIIIII)I", prog_4_method_2_code, 9, (some .int), 6, 160),
  (2, "pass", "(III)I", prog_4_method_3_code, 4, (some .int), 6, 160),
  (2, "alter", "(LUncrossedBook$Order;II)V", prog_4_method_4_code, 4, none, 6, 160),
  (2, "open", "(II)V", prog_4_method_5_code, 8, none, 6, 160),
  (2, "enter", "(LUncrossedBook$Order;)V", prog_4_method_6_code, 2, none, 5, 138),
  (2, "tryAtOnce", "(LUncrossedBook$Order;I)V", prog_4_method_7_code, 3, none, 5, 138),
  (2, "noLimit", "(I)I", prog_4_method_8_code, 1, (some .int), 0, 0),
  (2, "endUnrested", "(LUncrossedBook$Order;)V", prog_4_method_9_code, 1, none, 0, 0),
  (2, "thereIsEnoughFor", "(LUncrossedBook$Order;)Z", prog_4_method_10_code, 8, (some .boolean), 3, 69),
  (2, "isWithin", "(LUncrossedBook$Order;II)Z", prog_4_method_11_code, 3, (some .boolean), 0, 0),
  (2, "goIn", "(LUncrossedBook$Order;I)V", prog_4_method_12_code, 6, none, 4, 113),
  (2, "meet", "(LUncrossedBook$Order;LUncrossedBook$Order;)V", prog_4_method_13_code, 4, none, 3, 90),
  (2, "comeRound", "(LUncrossedBook$Order;I)V", prog_4_method_14_code, 3, none, 2, 68),
  (2, "tradeAway", "(LUncrossedBook$Order;LUncrossedBook$Order;II)V", prog_4_method_15_code, 5, none, 1, 25),
  (2, "meetOwn", "(LUncrossedBook$Order;LUncrossedBook$Order;)V", prog_4_method_16_code, 4, none, 3, 90),
  (2, "lessenBy", "(LUncrossedBook$Order;I)V", prog_4_method_17_code, 2, none, 2, 69),
  (2, "wakeStops", "()V", prog_4_method_18_code, 3, none, 5, 138),
  (2, "firstReachedStop", "()LUncrossedBook$Order;", prog_4_method_19_code, 3, (some (.object "UncrossedBook$Order")), 1, 22),
  (2, "isReached", "(LUncrossedBook$Order;)Z", prog_4_method_20_code, 3, (some .boolean), 0, 0),
  (3, "<init>", "(I)V", prog_5_method_1_code, 2, none, 0, 0),
  (3, "begin", "(IIIIII)V", prog_5_method_2_code, 7, none, 0, 0),
  (3, "takeOver", "(LUncrossedBook$Order;)V", prog_5_method_3_code, 2, none, 0, 0),
  (3, "isUnder", "(I)Z", prog_5_method_4_code, 2, (some .boolean), 0, 0),
  (3, "canBeAmended", "()Z", prog_5_method_5_code, 1, (some .boolean), 0, 0),
  (3, "restsOn", "(I)Z", prog_5_method_6_code, 2, (some .boolean), 0, 0),
  (3, "visibleNow", "()I", prog_5_method_7_code, 1, (some .int), 0, 0),
  (3, "priceBy", "(I)I", prog_5_method_8_code, 3, (some .int), 1, 20),
  (3, "isAheadOf", "(LUncrossedBook$Order;II)Z", prog_5_method_9_code, 4, (some .boolean), 0, 0),
  (3, "giveTraded", "(I)V", prog_5_method_10_code, 2, none, 0, 0),
  (3, "lessenTo", "(I)V", prog_5_method_11_code, 2, none, 1, 48),
  (3, "showAnew", "()V", prog_5_method_12_code, 1, none, 1, 48),
  (4, "<init>", "()V", prog_6_method_1_code, 1, none, 0, 0),
  (4, "lineUp", "(LUncrossedBook$Book;I)V", prog_6_method_2_code, 7, none, 3, 69),
  (4, "placeIn", "(LUncrossedBook$Order;I)V", prog_6_method_3_code, 4, none, 1, 23),
  (4, "orderAt", "(I)LUncrossedBook$Order;", prog_6_method_4_code, 2, (some (.object "UncrossedBook$Order")), 0, 0),
  (4, "priceOfLevel", "(I)I", prog_6_method_5_code, 5, (some .int), 0, 0),
  (4, "visibleAt", "(I)I", prog_6_method_6_code, 4, (some .int), 1, 20),
  (4, "visibleAhead", "(LUncrossedBook$Order;)I", prog_6_method_7_code, 4, (some .int), 1, 20),
  (4, "costOf", "(I)I", prog_6_method_8_code, 6, (some .int), 1, 48),
  (5, "<init>", "()V", prog_7_method_1_code, 1, none, 0, 0),
  (5, "holdNothing", "()V", prog_7_method_2_code, 1, none, 0, 0),
  (5, "holdOrder", "(I)V", prog_7_method_3_code, 2, none, 1, 20),
  (5, "holdRow", "(II)V", prog_7_method_4_code, 3, none, 1, 24),
  (5, "holdsRow", "()Z", prog_7_method_5_code, 1, (some .boolean), 0, 0),
  (5, "holdsOrder", "()Z", prog_7_method_6_code, 1, (some .boolean), 0, 0),
  (5, "hasElement", "(I)Z", prog_7_method_7_code, 2, (some .boolean), 0, 0),
  (5, "hasSpan", "(II)Z", prog_7_method_8_code, 3, (some .boolean), 0, 0),
  (5, "put", "(IJ)V", prog_7_method_9_code, 4, none, 1, 21),
  (5, "intAt", "(I)I", prog_7_method_10_code, 2, (some .int), 1, 21),
  (6, "<init>", "()V", prog_8_method_1_code, 1, none, 0, 0),
  (6, "faultIn", "(LUncrossedBook$Shelf;)I", prog_8_method_2_code, 3, (some .int), 6, 137),
  (6, "takeItem", "(LUncrossedBook$Shelf;)V", prog_8_method_3_code, 7, none, 5, 111),
  (6, "signAt", "(LUncrossedBook$Shelf;)I", prog_8_method_4_code, 2, (some .int), 2, 42),
  (6, "takeSign", "(LUncrossedBook$Shelf;I)V", prog_8_method_5_code, 3, none, 4, 87),
  (6, "takeBetween", "(LUncrossedBook$Shelf;II)I", prog_8_method_6_code, 5, (some .int), 3, 63),
  (6, "takeNumber", "(LUncrossedBook$Shelf;)I", prog_8_method_7_code, 5, (some .int), 4, 87),
  (6, "isDigitNext", "(LUncrossedBook$Shelf;)Z", prog_8_method_8_code, 3, (some .boolean), 3, 63),
  (7, "<init>", "()V", prog_9_method_1_code, 1, none, 0, 0),
  (7, "takeOver", "(LUncrossedBook$TradeLog;)V", prog_9_method_2_code, 2, none, 1, 48),
  (7, "note", "(LUncrossedBook$Order;LUncrossedBook$Order;II)V", prog_9_method_3_code, 6, none, 0, 0),
  (7, "keeps", "(I)Z", prog_9_method_4_code, 2, (some .boolean), 0, 0),
  (7, "tell", "(II)I", prog_9_method_5_code, 3, (some .int), 1, 21),
  (7, "isToldBy", "(LUncrossedBook$Shelf;I)Z", prog_9_method_6_code, 4, (some .boolean), 2, 43),
  (8, "<init>", "()V", prog_1_method_1_code, 2, none, 0, 0),
  (8, "row", "(III)I", prog_1_method_2_code, 4, (some .int), 2, 46),
  (8, "set", "(IIJ)I", prog_1_method_3_code, 6, (some .int), 2, 44),
  (8, "copy", "(IIIII)I", prog_1_method_4_code, 8, (some .int), 1, 48),
  (8, "element", "(II)J", prog_1_method_5_code, 3, (some .long), 1, 21),
  (8, "show", "(II)I", prog_1_method_6_code, 3, (some .int), 2, 41),
  (8, "holds", "(I)I", prog_1_method_7_code, 3, (some .int), 1, 20),
  (8, "says", "(II)I", prog_1_method_8_code, 4, (some .int), 4, 90),
  (8, "limit", "(IIIII)I", prog_1_method_9_code, 8, (some .int), 7, 188),
  (8, "hidden", "(IIIII)I", prog_1_method_10_code, 8, (some .int), 7, 188),
  (8, "pegged", "(IIII)I", prog_1_method_11_code, 7, (some .int), 7, 188),
  (8, "halt", "(IIII)I", prog_1_method_12_code, 7, (some .int), 7, 188),
  (8, "market", "(III)I", prog_1_method_13_code, 4, (some .int), 7, 183),
  (8, "read", "(I)I", prog_1_method_14_code, 5, (some .int), 7, 188),
  (8, "fault", "()I", prog_1_method_15_code, 1, (some .int), 0, 0),
  (8, "cancel", "(I)I", prog_1_method_16_code, 3, (some .int), 1, 21),
  (8, "amend", "(III)I", prog_1_method_17_code, 6, (some .int), 7, 183),
  (8, "rule", "(I)I", prog_1_method_18_code, 3, (some .int), 1, 21),
  (8, "uncross", "()I", prog_1_method_19_code, 1, (some .int), 7, 187),
  (8, "close", "()I", prog_1_method_20_code, 1, (some .int), 1, 23),
  (8, "crossing", "(I)I", prog_1_method_21_code, 2, (some .int), 3, 77),
  (8, "orderOf", "(II)I", prog_1_method_22_code, 4, (some .int), 4, 90),
  (8, "rank", "(II)I", prog_1_method_23_code, 4, (some .int), 4, 95),
  (8, "depth", "(III)I", prog_1_method_24_code, 5, (some .int), 4, 95),
  (8, "ahead", "(I)I", prog_1_method_25_code, 3, (some .int), 4, 95),
  (8, "sweep", "(II)I", prog_1_method_26_code, 3, (some .int), 4, 95),
  (8, "trades", "()I", prog_1_method_27_code, 1, (some .int), 0, 0),
  (8, "trade", "(II)I", prog_1_method_28_code, 3, (some .int), 2, 43),
  (8, "position", "(I)I", prog_1_method_29_code, 2, (some .int), 1, 21),
  (8, "cash", "(I)I", prog_1_method_30_code, 2, (some .int), 1, 21),
  (8, "judge", "(II)I", prog_1_method_31_code, 5, (some .int), 3, 66),
  (8, "draws", "(I)I", prog_1_method_32_code, 8, (some .int), 7, 188),
  (8, "seed", "(I)I", prog_1_method_33_code, 3, (some .int), 0, 0),
  (8, "image", "()I", prog_1_method_34_code, 1, (some .int), 3, 91),
  (8, "restore", "()I", prog_1_method_35_code, 2, (some .int), 3, 91),
  (8, "status", "(I)I", prog_1_method_36_code, 2, (some .int), 1, 23),
  (8, "refuse", "(I)I", prog_1_method_37_code, 2, (some .int), 0, 0),
  (8, "refuseApart", "(I)I", prog_1_method_38_code, 2, (some .int), 1, 21),
  (8, "reasonAgainstRow", "(I)I", prog_1_method_39_code, 2, (some .int), 1, 20),
  (8, "reasonAgainstComer", "(IIZ)I", prog_1_method_40_code, 4, (some .int), 1, 20),
  (8, "isShelf", "(I)Z", prog_1_method_41_code, 1, (some .boolean), 0, 0),
  (8, "isOwner", "(I)Z", prog_1_method_42_code, 1, (some .boolean), 0, 0),
  (8, "isSide", "(I)Z", prog_1_method_43_code, 1, (some .boolean), 0, 0),
  (8, "isMeasure", "(I)Z", prog_1_method_44_code, 1, (some .boolean), 0, 0),
  (8, "otherSide", "(I)I", prog_1_method_45_code, 1, (some .int), 0, 0),
  (9, "<init>", "()V", prog_11_method_1_code, 2, none, 0, 0),
  (9, "in", "(III)Z", prog_11_method_3_code, 3, (some .boolean), 0, 0),
  (9, "refused", "(I)I", prog_11_method_4_code, 2, (some .int), 0, 0),
  (9, "refusedBelow", "(I)I", prog_11_method_5_code, 2, (some .int), 0, 0),
  (9, "isOrder", "(I)Z", prog_11_method_6_code, 2, (some .boolean), 1, 22),
  (9, "isSide", "(I)Z", prog_11_method_7_code, 1, (some .boolean), 1, 22),
  (9, "isOwner", "(I)Z", prog_11_method_8_code, 1, (some .boolean), 1, 22),
  (9, "is999", "(I)Z", prog_11_method_9_code, 1, (some .boolean), 1, 22),
  (9, "isShelf", "(I)Z", prog_11_method_10_code, 1, (some .boolean), 1, 22),
  (9, "row", "(III)I", prog_11_method_11_code, 5, (some .int), 2, 42),
  (9, "wanted", "(I)I", prog_11_method_12_code, 2, (some .int), 2, 42),
  (9, "set", "(IIJ)I", prog_11_method_13_code, 6, (some .int), 3, 63),
  (9, "copy", "(IIIII)I", prog_11_method_14_code, 8, (some .int), 2, 42),
  (9, "isRow", "(I)Z", prog_11_method_15_code, 2, (some .boolean), 2, 42),
  (9, "element", "(II)J", prog_11_method_16_code, 3, (some .long), 3, 63),
  (9, "show", "(II)I", prog_11_method_17_code, 3, (some .int), 2, 43),
  (9, "holds", "(I)I", prog_11_method_18_code, 2, (some .int), 2, 42),
  (9, "isLimit", "(I)Z", prog_11_method_19_code, 2, (some .boolean), 0, 0),
  (9, "doesRest", "(I)Z", prog_11_method_20_code, 2, (some .boolean), 0, 0),
  (9, "bestPrice", "(I)I", prog_11_method_21_code, 6, (some .int), 1, 21),
  (9, "priceOf", "(I)I", prog_11_method_22_code, 4, (some .int), 2, 46),
  (9, "seenOf", "(I)I", prog_11_method_23_code, 2, (some .int), 1, 21),
  (9, "isAheadOf", "(II)Z", prog_11_method_24_code, 5, (some .boolean), 3, 69),
  (9, "isRanked", "(II)Z", prog_11_method_25_code, 3, (some .boolean), 3, 69),
  (9, "aheadMany", "(I)I", prog_11_method_26_code, 4, (some .int), 4, 93),
  (9, "firstOf", "(IZ)I", prog_11_method_27_code, 6, (some .int), 4, 93),
  (9, "isWithin", "(III)Z", prog_11_method_28_code, 3, (some .boolean), 0, 0),
  (9, "pays", "(III)V", prog_11_method_29_code, 4, none, 0, 0),
  (9, "notes", "(IIII)V", prog_11_method_30_code, 6, none, 0, 0),
  (9, "fresh", "(I)V", prog_11_method_31_code, 2, none, 0, 0),
  (9, "nextTime", "()I", prog_11_method_32_code, 1, (some .int), 0, 0),
  (9, "rests", "(I)V", prog_11_method_33_code, 2, none, 1, 21),
  (9, "loses", "(II)V", prog_11_method_34_code, 3, none, 1, 21),
  (9, "meets", "(I)V", prog_11_method_35_code, 3, none, 0, 0),
  (9, "goesIn", "(IIIII)V", prog_11_method_36_code, 10, none, 5, 118),
  (9, "orderGoesIn", "(IIZ)V", prog_11_method_37_code, 4, none, 6, 147),
  (9, "isReached", "(I)Z", prog_11_method_38_code, 3, (some .boolean), 0, 0),
  (9, "stops", "()V", prog_11_method_39_code, 2, none, 7, 170),
  (9, "comes", "(IIIIII)I", prog_11_method_40_code, 8, (some .int), 0, 0),
  (9, "isEnough", "(I)Z", prog_11_method_41_code, 5, (some .boolean), 4, 91),
  (9, "limitComes", "(II)V", prog_11_method_42_code, 3, none, 8, 191),
  (9, "wantedOrder", "(IIZ)I", prog_11_method_43_code, 4, (some .int), 2, 42),
  (9, "limit", "(IIIII)I", prog_11_method_44_code, 8, (some .int), 9, 213),
  (9, "hidden", "(IIIII)I", prog_11_method_45_code, 8, (some .int), 9, 213),
  (9, "pegged", "(IIII)I", prog_11_method_46_code, 7, (some .int), 8, 191),
  (9, "halt", "(IIII)I", prog_11_method_47_code, 7, (some .int), 8, 191),
  (9, "market", "(III)I", prog_11_method_48_code, 5, (some .int), 8, 191),
  (9, "here", "()I", prog_11_method_49_code, 1, (some .int), 0, 0),
  (9, "fails", "(I)V", prog_11_method_50_code, 2, none, 0, 0),
  (9, "one", "(II)I", prog_11_method_51_code, 3, (some .int), 1, 22),
  (9, "isDigit", "()Z", prog_11_method_52_code, 1, (some .boolean), 1, 22),
  (9, "number", "()I", prog_11_method_53_code, 4, (some .int), 2, 44),
  (9, "item", "(Z)V", prog_11_method_54_code, 7, none, 9, 213),
  (9, "goesThrough", "(Z)I", prog_11_method_55_code, 3, (some .int), 10, 239),
  (9, "read", "(I)I", prog_11_method_56_code, 4, (some .int), 11, 261),
  (9, "fault", "()I", prog_11_method_57_code, 1, (some .int), 0, 0),
  (9, "isThere", "(I)Z", prog_11_method_58_code, 2, (some .boolean), 0, 0),
  (9, "cancel", "(I)I", prog_11_method_59_code, 2, (some .int), 2, 43),
  (9, "amend", "(III)I", prog_11_method_60_code, 6, (some .int), 9, 213),
  (9, "rule", "(I)I", prog_11_method_61_code, 3, (some .int), 1, 22),
  (9, "volumeAt", "(I)I", prog_11_method_62_code, 4, (some .int), 1, 21),
  (9, "far", "(II)I", prog_11_method_63_code, 2, (some .int), 0, 0),
  (9, "crossPrice", "()I", prog_11_method_64_code, 8, (some .int), 2, 44),
  (9, "crosses", "(II)V", prog_11_method_65_code, 7, none, 5, 118),
  (9, "crossed", "(II)V", prog_11_method_66_code, 3, none, 0, 0),
  (9, "uncross", "()I", prog_11_method_67_code, 3, (some .int), 8, 191),
  (9, "manyIn", "(I)I", prog_11_method_68_code, 4, (some .int), 0, 0),
  (9, "close", "()I", prog_11_method_69_code, 1, (some .int), 1, 23),
  (9, "crossing", "(I)I", prog_11_method_70_code, 3, (some .int), 3, 71),
  (9, "pricedAs", "(I)I", prog_11_method_71_code, 2, (some .int), 3, 69),
  (9, "says", "(II)I", prog_11_method_72_code, 6, (some .int), 4, 90),
  (9, "orderOf", "(II)I", prog_11_method_73_code, 3, (some .int), 4, 90),
  (9, "ranked", "(II)I", prog_11_method_74_code, 5, (some .int), 5, 116),
  (9, "rank", "(II)I", prog_11_method_75_code, 3, (some .int), 6, 140),
  (9, "depth", "(III)I", prog_11_method_76_code, 9, (some .int), 6, 140),
  (9, "ahead", "(I)I", prog_11_method_77_code, 4, (some .int), 4, 93),
  (9, "sweep", "(II)I", prog_11_method_78_code, 8, (some .int), 6, 140),
  (9, "trades", "()I", prog_11_method_79_code, 1, (some .int), 0, 0),
  (9, "kept", "()I", prog_11_method_80_code, 1, (some .int), 0, 0),
  (9, "trade", "(II)I", prog_11_method_81_code, 3, (some .int), 1, 22),
  (9, "position", "(I)I", prog_11_method_82_code, 2, (some .int), 2, 42),
  (9, "cash", "(I)I", prog_11_method_83_code, 2, (some .int), 2, 42),
  (9, "judge", "(II)I", prog_11_method_84_code, 7, (some .int), 3, 63),
  (9, "drawn", "(I)I", prog_11_method_85_code, 2, (some .int), 0, 0),
  (9, "draws", "(I)I", prog_11_method_86_code, 8, (some .int), 9, 213),
  (9, "seed", "(I)I", prog_11_method_87_code, 3, (some .int), 0, 0),
  (9, "image", "()I", prog_11_method_88_code, 2, (some .int), 0, 0),
  (9, "restore", "()I", prog_11_method_89_code, 2, (some .int), 2, 43),
  (9, "status", "(I)I", prog_11_method_90_code, 2, (some .int), 1, 23),
  (10, "fill", "([JJ)V", prog_14_method_101_code, 5, none, 0, 0),
  (10, "fill", "([II)V", prog_14_method_103_code, 4, none, 0, 0),
  (12, "law", "([I)Z", code, 4, (some .boolean), 12, 284)]
def mE (y : Nat) : aMt := meths.getD y (99, "", "", ⟨#[]⟩, 0, none, 0, 0)
def mC (y : Nat) : Nat := (mE y).1
def mNm (y : Nat) : MethodName := ⟨cN (mE y).1, (mE y).2.1, (mE y).2.2.1⟩
def mCd (y : Nat) : ByteArray := (mE y).2.2.2.1
def mL (y : Nat) : Nat := (mE y).2.2.2.2.1
def mRt (y : Nat) : Option FieldType := (mE y).2.2.2.2.2.1
def mF (y : Nat) : Nat := (mE y).2.2.2.2.2.2.1
def mW (y : Nat) : Nat := (mE y).2.2.2.2.2.2.2
/-- calls by class and pool number: kind (0 virtual, 1 static, 2 static of a nest mate, 3 System.arraycopy, 4 Math.min, 5 Math.abs), how many arguments, the method; the place of the link's word -/
def siteT : List (List (Nat × (Nat × Nat × Nat) × Nat)) := [[(36, (0, 1, 2), 3158), (40, (4, 2, 0), 3166), (46, (5, 1, 0), 3167), (50, (1, 2, 212), 3162), (72, (2, 1, 120), 3165)], [(43, (0, 1, 35), 4064), (47, (0, 1, 72), 4068), (56, (0, 0, 44), 2219), (59, (0, 1, 6), 2226), (62, (0, 1, 38), 2177), (72, (0, 3, 41), 2181), (76, (0, 1, 8), 2173), (83, (0, 1, 9), 2169), (87, (0, 1, 40), 2185)], [(35, (0, 6, 34), 2211), (42, (0, 1, 7), 2215), (46, (0, 1, 18), 2230), (49, (0, 2, 19), 3040), (53, (0, 0, 30), 3054), (59, (1, 1, 20), 3066), (63, (0, 2, 24), 2234), (78, (0, 1, 43), 3013), (81, (0, 1, 8), 3001), (85, (4, 2, 0), 3009), (91, (0, 4, 27), 3022), (95, (0, 0, 44), 3038), (101, (0, 1, 22), 3044), (105, (1, 1, 21), 3051), (111, (2, 1, 121), 2238), (114, (0, 1, 9), 3048), (123, (0, 1, 38), 3049), (127, (0, 1, 40), 3050), (130, (1, 3, 23), 3002), (134, (0, 2, 28), 3005), (138, (0, 2, 25), 3017), (141, (0, 0, 39), 3021), (145, (0, 2, 26), 3034), (151, (0, 1, 6), 3039), (158, (0, 4, 73), 3026), (163, (0, 1, 42), 3030), (166, (1, 2, 29), 3010), (169, (0, 0, 31), 3058), (173, (0, 1, 32), 3062)], [(45, (2, 1, 120), 2189), (49, (4, 2, 0), 2223)], [(25, (0, 1, 9), 3202), (37, (0, 1, 40), 3203), (40, (0, 1, 38), 3204), (44, (0, 2, 47), 3205), (48, (0, 3, 41), 3209), (52, (0, 0, 39), 3226), (59, (4, 2, 0), 4005)], [(25, (0, 0, 54), 2089), (28, (1, 2, 211), 2093), (34, (0, 1, 59), 2120)], [(37, (0, 1, 65), 3097), (46, (0, 2, 67), 3113), (50, (0, 3, 68), 3101), (54, (0, 1, 66), 3105), (58, (0, 1, 69), 3117), (61, (0, 1, 62), 3109), (65, (0, 1, 70), 3121), (69, (2, 1, 120), 3125)], [(28, (3, 5, 0), 4072), (42, (0, 1, 74), 4022), (46, (0, 1, 62), 4041), (52, (0, 2, 75), 4042)], [(67, (1, 1, 117), 2078), (71, (0, 1, 113), 2081), (75, (0, 2, 56), 2085), (79, (0, 1, 115), 2100), (82, (0, 1, 59), 2112), (85, (0, 2, 61), 2116), (89, (0, 0, 58), 2104), (93, (0, 0, 57), 2108), (99, (0, 2, 60), 2125), (107, (3, 5, 0), 2129), (113, (0, 0, 54), 2140), (116, (0, 1, 5), 2141), (120, (0, 1, 55), 2145), (127, (0, 1, 36), 2157), (135, (0, 0, 39), 2161), (139, (0, 1, 10), 2165), (143, (1, 1, 120), 2196), (146, (0, 3, 116), 2197), (150, (0, 7, 14), 2207), (154, (1, 1, 118), 2201), (157, (1, 1, 119), 2204), (163, (0, 3, 15), 3085), (167, (0, 1, 64), 3093), (193, (0, 0, 37), 3138), (199, (0, 3, 16), 3142), (206, (0, 1, 1), 3154), (216, (0, 2, 17), 3170), (219, (0, 1, 11), 3178), (231, (0, 1, 114), 3194), (234, (0, 2, 46), 3198), (238, (0, 1, 48), 3210), (242, (0, 1, 49), 3218), (245, (0, 1, 50), 3222), (248, (0, 1, 51), 3231), (252, (1, 1, 121), 4000), (255, (0, 1, 52), 4001), (265, (0, 1, 74), 4014), (268, (0, 2, 75), 4018), (283, (0, 2, 76), 4037), (287, (0, 1, 12), 4047), (293, (0, 1, 4), 4060)], [(43, (1, 3, 123), 4164), (47, (1, 1, 130), 4161), (51, (0, 1, 124), 4167), (55, (0, 1, 132), 4175), (58, (0, 1, 135), 4187), (61, (0, 1, 126), 4195), (64, (0, 1, 140), 5012), (67, (0, 1, 139), 5016), (70, (0, 1, 141), 5020), (73, (1, 1, 129), 4207), (76, (0, 1, 142), 5008), (79, (0, 2, 145), 5004), (83, (0, 2, 144), 5039), (86, (0, 0, 152), 4232), (90, (0, 1, 151), 4236), (113, (0, 2, 147), 5035), (117, (1, 3, 148), 5024), (120, (0, 1, 155), 5043), (123, (0, 1, 143), 5047), (126, (0, 2, 154), 5051), (130, (0, 3, 149), 5055), (134, (0, 4, 150), 5059), (138, (0, 5, 156), 5031), (142, (0, 1, 153), 4228), (145, (0, 1, 158), 5067), (148, (0, 3, 157), 5027), (152, (0, 1, 161), 5000), (155, (0, 0, 159), 5063), (158, (1, 1, 128), 4214), (161, (1, 1, 127), 4217), (164, (0, 3, 163), 4210), (168, (0, 6, 160), 4220), (172, (0, 2, 162), 4224), (184, (0, 0, 169), 5103), (187, (0, 1, 170), 5107), (190, (0, 2, 171), 5099), (194, (0, 0, 172), 5115), (198, (0, 0, 173), 5111), (201, (0, 1, 174), 5095), (205, (0, 1, 175), 5091), (209, (0, 1, 178), 5127), (221, (0, 1, 182), 5147), (224, (1, 2, 183), 5151), (227, (0, 2, 186), 5158), (230, (0, 0, 184), 5143), (233, (0, 2, 185), 5154), (236, (0, 1, 188), 5166), (239, (0, 1, 191), 5178), (242, (0, 1, 146), 5194), (245, (0, 2, 194), 5190), (248, (0, 1, 125), 5198), (252, (0, 0, 200), 5223), (258, (0, 1, 205), 6005)], [], [], [(13, (0, 3, 78), 2074), (17, (0, 3, 131), 4157), (20, (0, 3, 79), 2096), (24, (0, 3, 133), 4171), (25, (0, 5, 80), 2121), (29, (0, 5, 134), 4179), (30, (0, 2, 81), 2132), (34, (0, 2, 136), 4183), (35, (0, 2, 82), 2136), (39, (0, 2, 137), 4191), (40, (0, 1, 83), 2149), (44, (0, 1, 138), 4199), (45, (0, 2, 84), 2153), (48, (0, 2, 192), 5174), (49, (0, 5, 85), 2192), (52, (0, 5, 164), 4203), (53, (0, 5, 86), 3069), (56, (0, 5, 165), 5071), (57, (0, 4, 87), 3073), (61, (0, 4, 166), 5075), (62, (0, 4, 88), 3077), (65, (0, 4, 167), 5079), (66, (0, 3, 89), 3081), (69, (0, 3, 168), 5083), (70, (0, 1, 90), 3089), (73, (0, 1, 176), 5087), (74, (0, 0, 91), 3126), (78, (0, 0, 177), 5119), (79, (0, 1, 92), 3130), (82, (0, 1, 179), 5123), (83, (0, 3, 93), 3134), (86, (0, 3, 180), 5131), (87, (0, 1, 94), 3146), (90, (0, 1, 181), 5135), (91, (0, 0, 95), 3150), (94, (0, 0, 187), 5139), (95, (0, 0, 96), 3174), (98, (0, 0, 189), 5162), (99, (0, 1, 97), 3182), (102, (0, 1, 190), 5170), (103, (0, 2, 98), 3186), (106, (0, 2, 193), 5182), (107, (0, 2, 99), 3190), (110, (0, 2, 195), 5186), (111, (0, 3, 100), 3214), (114, (0, 3, 196), 5202), (115, (0, 1, 101), 3227), (118, (0, 1, 197), 5206), (119, (0, 2, 102), 3235), (122, (0, 2, 198), 5210), (123, (0, 0, 103), 4006), (126, (0, 0, 199), 5215), (127, (0, 2, 104), 4010), (130, (0, 2, 201), 5219), (131, (0, 1, 105), 4023), (134, (0, 1, 202), 5227), (135, (0, 1, 106), 4028), (138, (0, 1, 203), 5232), (139, (0, 2, 107), 4033), (142, (0, 2, 204), 5237), (143, (0, 1, 108), 4043), (146, (0, 1, 206), 6001), (147, (0, 1, 109), 4052), (150, (0, 1, 207), 6010), (151, (0, 0, 110), 4056), (154, (0, 0, 208), 6014), (155, (0, 0, 111), 4073), (158, (0, 0, 209), 6018), (159, (0, 1, 112), 4077), (162, (0, 1, 210), 6022)]]
def site (c x : Nat) : Option (Nat × Nat × Nat) := ((siteT.getD c []).find? (fun q => q.1 == x)).map (fun q => q.2.1)
/-- fields by class and pool number: the class, the slot; the place of the link's word -/
def fldT : List (List (Nat × (Nat × Nat) × Nat)) := [[(9, (0, 0), 1188), (15, (0, 1), 1189), (18, (0, 2), 1190), (22, (0, 3), 1192), (25, (1, 1), 1140), (31, (7, 4), 1052), (56, (1, 2), 1146), (59, (1, 0), 1138), (63, (3, 5), 1097), (68, (3, 1), 1077), (71, (3, 7), 1104), (76, (3, 3), 1086), (79, (3, 4), 1091)], [(11, (1, 0), 1135), (20, (1, 1), 1139), (24, (1, 2), 1143), (28, (1, 3), 1148), (31, (1, 4), 1151), (34, (1, 5), 1154), (37, (1, 6), 1156), (50, (3, 10), 1111), (53, (3, 5), 1098), (66, (3, 1), 1079), (69, (3, 7), 1106), (80, (3, 3), 1087)], [(12, (2, 0), 1174), (23, (2, 1), 1176), (27, (1, 2), 1144), (31, (1, 0), 1136), (39, (3, 5), 1096), (56, (3, 0), 1073), (66, (3, 6), 1101), (69, (3, 1), 1078), (72, (3, 4), 1092), (75, (3, 7), 1105), (98, (1, 3), 1149), (108, (3, 3), 1088), (117, (1, 4), 1152), (120, (3, 2), 1083), (148, (3, 9), 1109), (154, (1, 1), 1141), (176, (7, 4), 1053)], [(9, (3, 1), 1076), (15, (3, 2), 1081), (18, (3, 3), 1085), (21, (3, 4), 1090), (24, (3, 5), 1095), (27, (3, 6), 1100), (30, (3, 7), 1103), (33, (3, 8), 1107), (36, (3, 9), 1108), (39, (3, 10), 1110), (42, (3, 0), 1072)], [(11, (4, 0), 1210), (17, (4, 1), 1211), (21, (4, 2), 1212), (31, (1, 2), 1145), (34, (1, 0), 1137), (56, (3, 4), 1093)], [(9, (5, 0), 2024), (15, (5, 1), 2026), (19, (5, 2), 2029), (22, (5, 3), 2031)], [(11, (6, 0), 1226), (15, (6, 1), 1228), (18, (6, 2), 1230), (21, (6, 3), 1232), (24, (6, 4), 1234), (27, (6, 5), 1236), (31, (6, 6), 1238), (34, (6, 7), 1239), (41, (5, 1), 2027)], [(9, (7, 0), 1044), (15, (7, 1), 1045), (18, (7, 2), 1047), (21, (7, 3), 1049), (25, (7, 4), 1051), (34, (3, 0), 1074), (39, (3, 2), 1082)], [(11, (8, 0), 2043), (15, (8, 1), 2044), (22, (8, 2), 2045), (26, (2, 0), 1175), (30, (8, 3), 2046), (34, (8, 4), 2047), (41, (8, 5), 2048), (48, (8, 6), 2049), (55, (8, 7), 2050), (58, (8, 8), 2051), (62, (8, 9), 2052), (96, (5, 2), 2030), (103, (5, 0), 2025), (124, (5, 3), 2032), (132, (3, 4), 1094), (160, (1, 3), 1150), (171, (6, 5), 1237), (174, (1, 2), 1147), (175, (6, 4), 1235), (178, (6, 0), 1227), (181, (6, 1), 1229), (184, (6, 2), 1231), (187, (6, 3), 1233), (190, (3, 5), 1099), (196, (3, 6), 1102), (203, (1, 4), 1153), (210, (0, 2), 1191), (213, (0, 3), 1193), (222, (3, 1), 1080), (225, (3, 2), 1084), (228, (3, 3), 1089), (239, (3, 0), 1075), (258, (1, 1), 1142), (262, (7, 3), 1050), (273, (7, 1), 1046), (277, (7, 2), 1048), (280, (5, 1), 2028), (290, (1, 5), 1155), (296, (7, 4), 1054)], [(7, (9, 1), 4087), (13, (9, 2), 4088), (16, (9, 4), 4090), (19, (9, 5), 4091), (22, (9, 6), 4092), (25, (9, 7), 4093), (29, (9, 8), 4094), (32, (9, 18), 4104), (36, (9, 22), 4108), (94, (9, 13), 4099), (98, (9, 11), 4097), (101, (9, 14), 4100), (104, (9, 9), 4095), (107, (9, 10), 4096), (110, (9, 12), 4098), (175, (9, 16), 4102), (178, (9, 15), 4101), (181, (9, 17), 4103), (212, (9, 19), 4105), (215, (9, 20), 4106), (218, (9, 21), 4107), (261, (9, 3), 4089)], [], [], []]
def fld (c x : Nat) : Option (Nat × Nat) := ((fldT.getD c []).find? (fun q => q.1 == x)).map (fun q => q.2.1)
/-- a method's words' places: code, instance or static, selects; a class's: that it is initialised -/
def mPt : List (Nat × Nat × Nat) := [(1186, 1185, 9999), (3157, 3155, 3156), (3161, 3160, 20), (1034, 1033, 9999), (4063, 4061, 4062), (2144, 2142, 2143), (2229, 2227, 2228), (2218, 2216, 2217), (2176, 2174, 2175), (2172, 2170, 2171), (2168, 2166, 2167), (3181, 3179, 3180), (4050, 4048, 4049), (1028, 1027, 9999), (2210, 2208, 2209), (3088, 3086, 3087), (3145, 3143, 3144), (3173, 3171, 3172), (2233, 2232, 3), (3043, 3042, 9), (3068, 3067, 9999), (3053, 3052, 9999), (3047, 3046, 10), (3004, 3003, 9999), (2237, 2236, 4), (3020, 3019, 6), (3037, 3036, 8), (3025, 3024, 7), (3008, 3007, 5), (3012, 3011, 9999), (3057, 3056, 11), (3061, 3060, 12), (3065, 3064, 13), (1070, 1069, 9999), (2214, 2212, 2213), (4067, 4065, 4066), (2160, 2158, 2159), (3141, 3139, 3140), (2180, 2178, 2179), (2164, 2162, 2163), (2188, 2186, 2187), (2184, 2182, 2183), (3033, 3031, 3032), (3016, 3014, 3015), (2222, 2220, 2221), (1207, 1206, 9999), (3201, 3199, 3200), (3208, 3207, 22), (3213, 3211, 3212), (3221, 3219, 3220), (3225, 3223, 3224), (3234, 3232, 3233), (4004, 4002, 4003), (2022, 2021, 9999), (2092, 2090, 2091), (2148, 2146, 2147), (2088, 2086, 2087), (2111, 2109, 2110), (2107, 2105, 2106), (2115, 2113, 2114), (2128, 2126, 2127), (2119, 2117, 2118), (3112, 3110, 3111), (1224, 1223, 9999), (3096, 3094, 3095), (3100, 3099, 14), (3108, 3107, 16), (3116, 3115, 17), (3104, 3103, 15), (3120, 3119, 18), (3124, 3123, 19), (1042, 1041, 9999), (4071, 4069, 4070), (3029, 3027, 3028), (4017, 4015, 4016), (4021, 4019, 4020), (4040, 4038, 4039), (1018, 1017, 9999), (2077, 2075, 2076), (2099, 2097, 2098), (2124, 2122, 2123), (2135, 2133, 2134), (2139, 2137, 2138), (2152, 2150, 2151), (2156, 2154, 2155), (2195, 2193, 2194), (3072, 3070, 3071), (3076, 3074, 3075), (3080, 3078, 3079), (3084, 3082, 3083), (3092, 3090, 3091), (3129, 3127, 3128), (3133, 3131, 3132), (3137, 3135, 3136), (3149, 3147, 3148), (3153, 3151, 3152), (3177, 3175, 3176), (3185, 3183, 3184), (3189, 3187, 3188), (3193, 3191, 3192), (3217, 3215, 3216), (3230, 3228, 3229), (3238, 3236, 3237), (4009, 4007, 4008), (4013, 4011, 4012), (4026, 4024, 4025), (4031, 4029, 4030), (4036, 4034, 4035), (4046, 4044, 4045), (4055, 4053, 4054), (4059, 4057, 4058), (4076, 4074, 4075), (4080, 4078, 4079), (2084, 2083, 0), (3197, 3196, 21), (2103, 2102, 1), (2200, 2199, 2), (2080, 2079, 9999), (2203, 2202, 9999), (2206, 2205, 9999), (2191, 2190, 9999), (3000, 2239, 9999), (4085, 4084, 9999), (4166, 4165, 9999), (4170, 4169, 23), (5201, 5200, 66), (4198, 4197, 26), (4219, 4218, 9999), (4216, 4215, 9999), (4209, 4208, 9999), (4163, 4162, 9999), (4160, 4158, 4159), (4178, 4177, 24), (4174, 4172, 4173), (4182, 4180, 4181), (4190, 4189, 25), (4186, 4184, 4185), (4194, 4192, 4193), (4202, 4200, 4201), (5019, 5018, 37), (5015, 5014, 36), (5023, 5022, 38), (5011, 5010, 35), (5050, 5049, 44), (5042, 5041, 42), (5007, 5006, 34), (5197, 5196, 65), (5038, 5037, 41), (5026, 5025, 9999), (5058, 5057, 46), (5062, 5061, 47), (4239, 4238, 32), (4235, 4234, 31), (4231, 4230, 30), (5054, 5053, 45), (5046, 5045, 43), (5034, 5033, 40), (5030, 5029, 39), (5070, 5069, 49), (5066, 5065, 48), (4223, 4222, 28), (5003, 5002, 33), (4227, 4226, 29), (4213, 4212, 27), (4206, 4204, 4205), (5074, 5072, 5073), (5078, 5076, 5077), (5082, 5080, 5081), (5086, 5084, 5085), (5106, 5105, 53), (5110, 5109, 54), (5102, 5101, 52), (5118, 5117, 56), (5114, 5113, 55), (5098, 5097, 51), (5094, 5093, 50), (5090, 5088, 5089), (5122, 5120, 5121), (5130, 5129, 57), (5126, 5124, 5125), (5134, 5132, 5133), (5138, 5136, 5137), (5150, 5149, 59), (5153, 5152, 9999), (5146, 5145, 58), (5157, 5156, 60), (5161, 5160, 61), (5142, 5140, 5141), (5169, 5168, 62), (5165, 5163, 5164), (5173, 5171, 5172), (5181, 5180, 63), (5177, 5175, 5176), (5185, 5183, 5184), (5193, 5192, 64), (5189, 5187, 5188), (5205, 5203, 5204), (5209, 5207, 5208), (5213, 5211, 5212), (5218, 5216, 5217), (5226, 5225, 67), (5222, 5220, 5221), (5230, 5228, 5229), (5235, 5233, 5234), (6000, 5238, 5239), (6008, 6007, 68), (6004, 6002, 6003), (6013, 6011, 6012), (6017, 6015, 6016), (6021, 6019, 6020), (6025, 6023, 6024), (2095, 2094, 9999), (3164, 3163, 9999), (9999, 9999, 9999)]
def iPt : List Nat := [1006, 1003, 1002, 1005, 1007, 1009, 1008, 1004, 1001, 1010, 1011, 1013, 1000]
/-- constants by class and pool number -/
def cstT : List (Nat × Nat × Int) := [(1, 90, 1103515245), (8, 251, 99999), (8, 272, 1000000), (8, 276, 1000000000), (9, 251, 99999), (9, 255, 1000000), (9, 256, 1000000000), (9, 257, 1103515245)]
def cst (c x : Nat) : Option Int := (cstT.find? (fun q => q.1 == c && q.2.1 == x)).map (fun q => q.2.2)
def cstL (c x : Nat) : Option Int64 := if c = 12 ∧ x = 18 then some 4294967295 else none
/-! one step -/
abbrev aG : Type := Nat × List AV × List AV × aM
abbrev aS : Type := aG ⊕ ((Option AV × aM) ⊕ (Nat × List AV × aG))
def cat (v : AV) : Nat := match v with
  | .inl _ => 1
  | .inr (.inl _) => 2
  | .inr (.inr (.inl _)) => 1
  | .inr (.inr (.inr _)) => 9
def cats (r : List AV) : Nat := (r.map cat).sum
def isJ (v : AV) : Bool := match v with
  | .inr (.inl _) => true
  | _ => false
/-- the place k may be stored to: no long stands right ahead of it -/
def okSt (L : List AV) (k : Nat) : Bool := match k with
  | 0 => true
  | k + 1 => !(((L[k]?).map isJ).getD true)
def inr32 (n : Int) : Bool := decide (-2147483648 ≤ n) && decide (n < 2147483648)
abbrev go1 (pc : Nat) (L st : List AV) (σ : aM) : Option aS := some (.inl (pc, L, st, σ))
def tg (pc : Nat) (off : Int) : Option Nat := if 0 ≤ (pc : Int) + off then some ((pc : Int) + off).toNat else none
def bcnd (k : ClassFile.Cond) (a b : Int) : Bool := match k with
  | .eq => decide (a = b)
  | .ne => !decide (a = b)
  | .lt => decide (a < b)
  | .ge => decide (b ≤ a)
  | .gt => decide (b < a)
  | .le => decide (a ≤ b)
def brn (pc : Nat) (off : Int) (b : Bool) (L st : List AV) (σ : aM) : Option aS := match tg pc off with
  | some t => if b = true then go1 t L st σ else go1 (pc + 3) L st σ
  | none => none
def stS (pc n k : Nat) (v : AV) (L st : List AV) (σ : aM) : Option aS := if k < L.length ∧ okSt L k = true then go1 (pc + n) (L.set k v) st σ else none
def stJ (pc n k : Nat) (v : AV) (L st : List AV) (σ : aM) : Option aS := if k + 1 < L.length ∧ okSt L k = true then go1 (pc + n) ((L.set k v).set (k + 1) aU) st σ else none
def shr (a b : Int) : Int := ((Int32.ofInt a).toUInt32 >>> ((Int32.ofInt b).toUInt32 &&& Int32.toUInt32 31)).toInt32.toInt
def rem (a b : Int) : Int := (Int32.ofInt a - Int32.ofInt a / Int32.ofInt b * Int32.ofInt b).toInt
def quo (a b : Int) : Int := (Int32.ofInt a / Int32.ofInt b).toInt
def ian (a b : Int) : Int := (Int32.ofInt a &&& Int32.ofInt b).toInt
def tob (a : Int) : Int := (Int32.ofInt a).toInt8.toInt32.toInt
def tos (a : Int) : Int := (Int32.ofInt a).toInt16.toInt32.toInt
def toj (a : Int) : Int64 := (Int32.ofInt a).toInt64
def toi (x : Int64) : Int := x.toInt32.toInt
/-- a method's locals at its entry -/
def lay (as : List AV) : List AV := as.flatMap fun v => if isJ v then [v, aU] else [v]
def lay0 (y : Nat) (as : List AV) : List AV := lay as ++ List.replicate (mL y - (lay as).length) aU
def okCall (y y' : Nat) (r : List AV) (as : List AV) : Bool := decide (mF y' + 1 ≤ mF y) && decide (8 + (mL y' + 11) + mW y' ≤ mW y) && decide (cats r ≤ 8) && decide ((lay as).length ≤ mL y')
def isB (v : Int) : Bool := decide (v = 0) || decide (v = 1)
def ldA (t : Nat) (i a : Int) (σ : aM) (T pc : Nat) (L st : List AV) (v : AV) : Option aS := if fT t = T ∧ (0 ≤ a ∧ a < aLen σ t) then go1 (pc + 1) L (v :: st) σ else none
def call (y x pc : Nat) (K : Nat) (L st : List AV) (σ : aM) : Option aS := match site (mC y) x with
  | some (0, n, y') => (if K = 0 then (match st.drop n with
    | .inr (.inr (.inl (some (t, i)))) :: r => if fC t = mC y' ∧ n ≤ st.length ∧ okCall y y' r (aR t i :: (st.take n).reverse) = true then some (.inr (.inr (y', aR t i :: (st.take n).reverse, (pc + 3, L, r, σ)))) else none
    | _ => none) else none)
  | some (1, n, y') => (if K = 1 ∧ n ≤ st.length ∧ okCall y y' (st.drop n) ((st.take n).reverse) = true then some (.inr (.inr (y', (st.take n).reverse, (pc + 3, L, st.drop n, σ)))) else none)
  | some (2, n, y') => (if K = 1 ∧ n ≤ st.length ∧ okCall y y' (st.drop n) ((st.take n).reverse) = true then some (.inr (.inr (y', (st.take n).reverse, (pc + 3, L, st.drop n, σ)))) else none)
  | some (3, _, _) => (match st with
    | .inl n :: .inl b :: .inr (.inr (.inl (some (t2, i2)))) :: .inl a :: .inr (.inr (.inl (some (t, i)))) :: r =>
      if K = 1 ∧ fT t = fT t2 ∧ t < 34 ∧ t2 < 34 ∧ 0 ≤ a ∧ 0 ≤ b ∧ 0 ≤ n ∧ a + n ≤ fL t ∧ b + n ≤ fL t2 ∧ 1 ≤ mF y ∧ cats r + 40 ≤ mW y then
        (match fT t with
        | 0 => go1 (pc + 3) L r (kI σ t i a t2 i2 b n)
        | 1 => go1 (pc + 3) L r (kL σ t i a t2 i2 b n)
        | _ => none) else none
    | _ => none)
  | some (4, _, _) => (match st with
    | .inl b :: .inl a :: r => if K = 1 ∧ 1 ≤ mF y ∧ cats r + 13 ≤ mW y then go1 (pc + 3) L (aI (if b < a then b else a) :: r) σ else none
    | _ => none)
  | some (5, _, _) => (match st with
    | .inl a :: r => if K = 1 ∧ 1 ≤ mF y ∧ cats r + 13 ≤ mW y then go1 (pc + 3) L (aI (if 0 ≤ a then a else wr (0 - a)) :: r) σ else none
    | _ => none)
  | _ => none
def stp (y : Nat) (ins : Instr) (pc : Nat) (L st : List AV) (σ : aM) : Option aS := match ins with
  | .aload_n k => (match L[(k : Nat)]? with | some (.inr (.inr (.inl q))) => go1 (pc + 1) L (aQ q :: st) σ | _ => none)
  | .aload k => (match L[k]? with | some (.inr (.inr (.inl q))) => go1 (pc + 2) L (aQ q :: st) σ | _ => none)
  | .iload_n k => (match L[(k : Nat)]? with | some (.inl v) => go1 (pc + 1) L (aI v :: st) σ | _ => none)
  | .iload k => (match L[k]? with | some (.inl v) => go1 (pc + 2) L (aI v :: st) σ | _ => none)
  | .lload_n k => (match L[(k : Nat)]? with | some (.inr (.inl v)) => go1 (pc + 1) L (aJ v :: st) σ | _ => none)
  | .istore_n k => (match st with | .inl v :: r => stS pc 1 k (aI v) L r σ | _ => none)
  | .istore k => (match st with | .inl v :: r => stS pc 2 k (aI v) L r σ | _ => none)
  | .astore_n k => (match st with | .inr (.inr (.inl q)) :: r => stS pc 1 k (aQ q) L r σ | _ => none)
  | .astore k => (match st with | .inr (.inr (.inl q)) :: r => stS pc 2 k (aQ q) L r σ | _ => none)
  | .iinc k n => (match L[k]? with | some (.inl v) => stS pc 3 k (aI (wr (v + n))) L st σ | _ => none)
  | .aconst_null => go1 (pc + 1) L (aN :: st) σ
  | .iconst n => if inr32 n = true then go1 (pc + 1) L (aI n :: st) σ else none
  | .bipush n => if -128 ≤ n ∧ n < 128 then go1 (pc + 2) L (aI n :: st) σ else none
  | .sipush n => if -32768 ≤ n ∧ n < 32768 then go1 (pc + 3) L (aI n :: st) σ else none
  | .lconst n => go1 (pc + 1) L (aJ (Int64.ofNat (n : Nat)) :: st) σ
  | .ldc x => (match cst (mC y) x with | some v => if inr32 v = true then go1 (pc + 2) L (aI v :: st) σ else none | none => none)
  | .ldc_w x => (match cst (mC y) x with | some v => if inr32 v = true then go1 (pc + 3) L (aI v :: st) σ else none | none => none)
  | .ldc2_w x => (match cstL (mC y) x with | some v => go1 (pc + 3) L (aJ v :: st) σ | none => none)
  | .dup => (match st with | v :: r => if cat v = 1 then go1 (pc + 1) L (v :: v :: r) σ else none | _ => none)
  | .dup2 => (match st with | u :: v :: r => if cat u = 1 ∧ cat v = 1 then go1 (pc + 1) L (u :: v :: u :: v :: r) σ else none | _ => none)
  | .pop => (match st with | v :: r => if cat v = 1 then go1 (pc + 1) L r σ else none | _ => none)
  | .iadd => (match st with | .inl b :: .inl a :: r => go1 (pc + 1) L (aI (wr (a + b)) :: r) σ | _ => none)
  | .isub => (match st with | .inl b :: .inl a :: r => go1 (pc + 1) L (aI (wr (a - b)) :: r) σ | _ => none)
  | .imul => (match st with | .inl b :: .inl a :: r => go1 (pc + 1) L (aI (wr (a * b)) :: r) σ | _ => none)
  | .idiv => (match st with | .inl b :: .inl a :: r => if b ≠ 0 then go1 (pc + 1) L (aI (quo a b) :: r) σ else none | _ => none)
  | .irem => (match st with | .inl b :: .inl a :: r => if b ≠ 0 then go1 (pc + 1) L (aI (rem a b) :: r) σ else none | _ => none)
  | .iand => (match st with | .inl b :: .inl a :: r => go1 (pc + 1) L (aI (ian a b) :: r) σ | _ => none)
  | .iushr => (match st with | .inl b :: .inl a :: r => go1 (pc + 1) L (aI (shr a b) :: r) σ | _ => none)
  | .ineg => (match st with | .inl a :: r => go1 (pc + 1) L (aI (wr (-a)) :: r) σ | _ => none)
  | .i2b => (match st with | .inl a :: r => go1 (pc + 1) L (aI (tob a) :: r) σ | _ => none)
  | .i2s => (match st with | .inl a :: r => go1 (pc + 1) L (aI (tos a) :: r) σ | _ => none)
  | .i2l => (match st with | .inl a :: r => go1 (pc + 1) L (aJ (toj a) :: r) σ | _ => none)
  | .l2i => (match st with | .inr (.inl x) :: r => go1 (pc + 1) L (aI (toi x) :: r) σ | _ => none)
  | .ladd => (match st with | .inr (.inl z) :: .inr (.inl x) :: r => go1 (pc + 1) L (aJ (x + z) :: r) σ | _ => none)
  | .land => (match st with | .inr (.inl z) :: .inr (.inl x) :: r => go1 (pc + 1) L (aJ (x &&& z) :: r) σ | _ => none)
  | .lor => (match st with | .inr (.inl z) :: .inr (.inl x) :: r => go1 (pc + 1) L (aJ (x ||| z) :: r) σ | _ => none)
  | .lshl => (match st with | .inl b :: .inr (.inl x) :: r => go1 (pc + 1) L (aJ (x <<< (toj b &&& 63)) :: r) σ | _ => none)
  | .lcmp => (match st with | .inr (.inl z) :: .inr (.inl x) :: r => go1 (pc + 1) L (aI (lg_cmp x z).toInt :: r) σ | _ => none)
  | .getfield x => (match st with
    | .inr (.inr (.inl (some (t, i)))) :: r => (match fld (mC y) x with
      | some (c, k) => if fC t = c then (match sK c k with
        | 0 => go1 (pc + 3) L (aI (gI σ t i (k : Int)) :: r) σ
        | 1 => go1 (pc + 3) L (aI (gI σ t i (k : Int)) :: r) σ
        | 2 => go1 (pc + 3) L (aQ (cref t i k) :: r) σ
        | 3 => go1 (pc + 3) L (aI (gI σ t i (k : Int)) :: r) σ
        | _ => none) else none
      | none => none)
    | _ => none)
  | .putfield x => (match st with
    | .inl v :: .inr (.inr (.inl (some (t, i)))) :: r => (match fld (mC y) x with
      | some (c, k) => if fC t = c then (match sK c k with
        | 0 => go1 (pc + 3) L r (uI σ t i (k : Int) v)
        | 1 => if isB v = true then go1 (pc + 3) L r (uI σ t i (k : Int) v) else none
        | _ => none) else none
      | none => none)
    | _ => none)
  | .arraylength => (match st with | .inr (.inr (.inl (some (t, _)))) :: r => if fC t = 99 ∧ inr32 (aLen σ t) = true then go1 (pc + 1) L (aI (aLen σ t) :: r) σ else none | _ => none)
  | .iaload => (match st with | .inl a :: .inr (.inr (.inl (some (t, i)))) :: r => ldA t i a σ 0 pc L r (aI (gI σ t i a)) | _ => none)
  | .baload => (match st with | .inl a :: .inr (.inr (.inl (some (t, i)))) :: r => ldA t i a σ 2 pc L r (aI (gI σ t i a)) | _ => none)
  | .laload => (match st with | .inl a :: .inr (.inr (.inl (some (t, i)))) :: r => ldA t i a σ 1 pc L r (aJ (gL σ t i a)) | _ => none)
  | .aaload => (match st with | .inl a :: .inr (.inr (.inl (some (t, i)))) :: r => if 3 ≤ fT t ∧ fT t ≤ 5 ∧ (0 ≤ a ∧ a < aLen σ t) then go1 (pc + 1) L (aQ (aref σ t i a) :: r) σ else none | _ => none)
  | .iastore => (match st with | .inl v :: .inl a :: .inr (.inr (.inl (some (t, i)))) :: r => if fT t = 0 ∧ t ≠ 34 ∧ (0 ≤ a ∧ a < aLen σ t) then go1 (pc + 1) L r (uI σ t i a v) else none | _ => none)
  | .bastore => (match st with | .inl v :: .inl a :: .inr (.inr (.inl (some (t, i)))) :: r => if fT t = 2 ∧ isB v = true ∧ (0 ≤ a ∧ a < aLen σ t) then go1 (pc + 1) L r (uI σ t i a v) else none | _ => none)
  | .lastore => (match st with | .inr (.inl v) :: .inl a :: .inr (.inr (.inl (some (t, i)))) :: r => if fT t = 1 ∧ (0 ≤ a ∧ a < aLen σ t) then go1 (pc + 1) L r (uL σ t i a v) else none | _ => none)
  | .aastore => (match st with | .inr (.inr (.inl (some (t2, i2)))) :: .inl a :: .inr (.inr (.inl (some (t, _)))) :: r => if t = 17 ∧ t2 = 8 ∧ (0 ≤ a ∧ a < aLen σ t) then go1 (pc + 1) L r (uR σ a (some (t2, i2))) else none | _ => none)
  | .if_icmp k off => (match st with | .inl b :: .inl a :: r => brn pc off (bcnd k a b) L r σ | _ => none)
  | .ifCond k off => (match st with | .inl a :: r => brn pc off (bcnd k a 0) L r σ | _ => none)
  | .if_acmp k off => (match st with | .inr (.inr (.inl q2)) :: .inr (.inr (.inl q1)) :: r => (match k with | .ne => brn pc off (!decide (q1 = q2)) L r σ | .eq => none) | _ => none)
  | .ifnull off => (match st with | .inr (.inr (.inl q)) :: r => brn pc off (q.isNone) L r σ | _ => none)
  | .ifnonnull off => (match st with | .inr (.inr (.inl q)) :: r => brn pc off (q.isSome) L r σ | _ => none)
  | .goto off => (match tg pc off with | some t => go1 t L st σ | none => none)
  | .tableswitch dflt lo hi offs => (match st with
    | .inl a :: r => (if a < lo ∨ hi < a then (match tg pc dflt with | some t => go1 t L r σ | none => none)
      else (match offs[(a - lo).toNat]? with | some off => (match tg pc off with | some t => go1 t L r σ | none => none) | none => none))
    | _ => none)
  | .invokevirtual x => call y x pc 0 L st σ
  | .invokestatic x => call y x pc 1 L st σ
  | .ireturn => (match st with | [.inl a] => (match mRt y with | some .int => some (.inr (.inl (some (aI a), σ))) | some .boolean => if isB a = true then some (.inr (.inl (some (aI a), σ))) else none | _ => none) | _ => none)
  | .lreturn => (match st with | [.inr (.inl a)] => (match mRt y with | some .long => some (.inr (.inl (some (aJ a), σ))) | _ => none) | _ => none)
  | .areturn => (match st with | [.inr (.inr (.inl q))] => (match mRt y with | some (.object _) => some (.inr (.inl (some (aQ q), σ))) | _ => none) | _ => none)
  | .return_ => (match st with | [] => (match mRt y with | none => some (.inr (.inl (none, σ))) | _ => none) | _ => none)
  | _ => none
/-- an instruction's length (0: a switch's, which its step doesn't use) -/
def ilen (i : Instr) : Nat := match i with
  | .aload _ | .iload _ | .istore _ | .astore _ | .bipush _ | .ldc _ => 2
  | .iinc _ _ | .sipush _ | .ldc_w _ | .ldc2_w _ | .getfield _ | .putfield _ | .if_icmp _ _ | .ifCond _ _ | .if_acmp _ _ | .ifnull _ | .ifnonnull _ | .goto _ | .invokevirtual _ | .invokestatic _ => 3
  | .tableswitch _ _ _ _ => 0
  | _ => 1
def fetch (y pc : Nat) : Option Instr := match decode (mCd y) pc with
  | .ok (i, n) => if ilen i = 0 ∨ n = ilen i then some i else none
  | .error _ => none
def runF : Nat → Nat → aG → Option (Option AV × aM)
  | 0, _, _ => none
  | n + 1, y, (pc, L, st, σ) => match fetch y pc with
    | none => none
    | some i => match stp y i pc L st σ with
      | none => none
      | some (.inl c) => runF n y c
      | some (.inr (.inl r)) => some r
      | some (.inr (.inr (y', as, (pc', L', r, σ')))) => match runF n y' (0, lay0 y' as, [], σ') with
        | none => none
        | some (v, σ'') => runF n y (pc', L', v.toList ++ r, σ'')
theorem runF_succ : ∀ (n y : Nat) (c : aG) (r : Option AV × aM), runF n y c = some r → runF (n + 1) y c = some r := by
  intro n
  induction n with
  | zero => intro y c r h; cases h
  | succ n ih =>
    intro y c r h
    obtain ⟨pc, L, st, σ⟩ := c
    rw [runF] at h ⊢
    cases hf : fetch y pc with
    | none => rw [hf] at h; cases h
    | some i =>
      rw [hf] at h
      dsimp only at h ⊢
      cases hs : stp y i pc L st σ with
      | none => rw [hs] at h; cases h
      | some q =>
        rw [hs] at h
        obtain c | r' | ⟨y', as, pc', L', r', σ'⟩ := q
        · exact ih y c r h
        · exact h
        · dsimp only at h ⊢
          cases hc : runF n y' (0, lay0 y' as, [], σ') with
          | none => rw [hc] at h; cases h
          | some p =>
            rw [hc] at h
            rw [ih _ _ _ hc]
            exact ih _ _ _ h
theorem runF_le {n k : Nat} (hk : n ≤ k) {y : Nat} {c : aG} {r : Option AV × aM} (h : runF n y c = some r) : runF k y c = some r := by
  induction hk with
  | refl => exact h
  | step _ ih => exact runF_succ _ _ _ _ ih
/-- what a run comes to -/
noncomputable def ev (y pc : Nat) (L st : List AV) (σ : aM) : Option (Option AV × aM) :=
  @dite _ (∃ (r : Option AV × aM) (n : Nat), runF n y (pc, L, st, σ) = some r) (Classical.propDecidable _) (fun h => some h.choose) (fun _ => none)
theorem ev_iff {y pc : Nat} {L st : List AV} {σ : aM} {r : Option AV × aM} : ev y pc L st σ = some r ↔ ∃ n, runF n y (pc, L, st, σ) = some r := by
  unfold ev
  split
  · rename_i h
    constructor
    · intro e
      cases e
      exact h.choose_spec
    · rintro ⟨n, hn⟩
      obtain ⟨k, hk⟩ := h.choose_spec
      have h1 := runF_le (Nat.le_max_left n k) hn
      have h2 := runF_le (Nat.le_max_right n k) hk
      rw [h1] at h2
      exact h2.symm
  · rename_i h
    constructor
    · intro e; cases e
    · rintro ⟨n, hn⟩
      exact absurd ⟨r, n, hn⟩ h
theorem ev_ext {y pc : Nat} {L st : List AV} {σ : aM} {y2 pc2 : Nat} {L2 st2 : List AV} {σ2 : aM} (h : ∀ r, (∃ n, runF n y (pc, L, st, σ) = some r) ↔ ∃ n, runF n y2 (pc2, L2, st2, σ2) = some r) : ev y pc L st σ = ev y2 pc2 L2 st2 σ2 := by
  cases h1 : ev y2 pc2 L2 st2 σ2 with
  | some r => exact ev_iff.mpr ((h r).mpr (ev_iff.mp h1))
  | none =>
    cases h2 : ev y pc L st σ with
    | none => rfl
    | some r =>
      have h3 := ev_iff.mpr ((h r).mp (ev_iff.mp h2))
      rw [h1] at h3
      cases h3
theorem ev_go {y pc : Nat} {L st : List AV} {σ : aM} {i : Instr} {pc' : Nat} {L' st' : List AV} {σ' : aM} (hd : fetch y pc = some i) (hs : stp y i pc L st σ = go1 pc' L' st' σ') : ev y pc L st σ = ev y pc' L' st' σ' := by
  refine ev_ext fun r => ⟨?_, ?_⟩
  · rintro ⟨n, h⟩
    cases n with
    | zero => cases h
    | succ n =>
      rw [runF, hd] at h
      dsimp only at h
      rw [hs] at h
      exact ⟨n, h⟩
  · rintro ⟨n, h⟩
    refine ⟨n + 1, ?_⟩
    rw [runF, hd]
    dsimp only
    rw [hs]
    exact h
theorem ev_ret {y pc : Nat} {L st : List AV} {σ : aM} {i : Instr} {r : Option AV × aM} (hd : fetch y pc = some i) (hs : stp y i pc L st σ = some (.inr (.inl r))) : ev y pc L st σ = some r := by
  refine ev_iff.mpr ⟨1, ?_⟩
  rw [runF, hd]
  dsimp only
  rw [hs]
/-- behind a call -/
noncomputable def evK (y pc : Nat) (L r : List AV) (q : Option (Option AV × aM)) : Option (Option AV × aM) := match q with
  | none => none
  | some (v, σ) => ev y pc L (v.toList ++ r) σ
theorem evK_i (y pc : Nat) (L r : List AV) (v : AV) (σ : aM) : evK y pc L r (some (some v, σ)) = ev y pc L (v :: r) σ := rfl
theorem evK_v (y pc : Nat) (L r : List AV) (σ : aM) : evK y pc L r (some (none, σ)) = ev y pc L r σ := rfl
theorem ev_call {y pc : Nat} {L st : List AV} {σ : aM} {i : Instr} {y' : Nat} {as : List AV} {pc' : Nat} {L' r : List AV} {L0 : List AV} (hd : fetch y pc = some i) (hs : stp y i pc L st σ = some (.inr (.inr (y', as, (pc', L', r, σ))))) (h0 : lay0 y' as = L0) : ev y pc L st σ = evK y pc' L' r (ev y' 0 L0 [] σ) := by
  subst h0
  have key : ∀ q, ev y pc L st σ = some q ↔ evK y pc' L' r (ev y' 0 (lay0 y' as) [] σ) = some q := by
    intro q
    constructor
    · intro h
      obtain ⟨n, h⟩ := ev_iff.mp h
      cases n with
      | zero => cases h
      | succ n =>
        rw [runF, hd] at h
        dsimp only at h
        rw [hs] at h
        dsimp only at h
        cases hc : runF n y' (0, lay0 y' as, [], σ) with
        | none => rw [hc] at h; cases h
        | some p =>
          rw [hc] at h
          rw [ev_iff.mpr ⟨n, hc⟩]
          exact ev_iff.mpr ⟨n, h⟩
    · intro h
      cases hc : ev y' 0 (lay0 y' as) [] σ with
      | none => rw [hc] at h; cases h
      | some p =>
        rw [hc] at h
        obtain ⟨v, σ''⟩ := p
        obtain ⟨n, h⟩ := ev_iff.mp h
        obtain ⟨k, hk⟩ := ev_iff.mp hc
        refine ev_iff.mpr ⟨max n k + 1, ?_⟩
        rw [runF, hd]
        dsimp only
        rw [hs]
        dsimp only
        rw [runF_le (Nat.le_max_right n k) hk]
        exact runF_le (Nat.le_max_left n k) h
  cases h1 : evK y pc' L' r (ev y' 0 (lay0 y' as) [] σ) with
  | some q => exact (key q).mpr h1
  | none =>
    cases h2 : ev y pc L st σ with
    | none => rfl
    | some q => rw [(key q).mp h2] at h1; cases h1
end
section
/-! rows of the small machine that its instances take -/
theorem ev_br {y pc : Nat} {L st : List AV} {σ : aM} {i : Instr} {t pc2 : Nat} {st' : List AV} {b : Bool} {c : Prop} [Decidable c] (hd : fetch y pc = some i) (hs : stp y i pc L st σ = if b = true then go1 t L st' σ else go1 pc2 L st' σ) (hb : b = true ↔ c) : ev y pc L st σ = if c then ev y t L st' σ else ev y pc2 L st' σ := by
  by_cases h : c
  · rw [if_pos h]
    refine ev_go hd ?_
    rw [hs, if_pos (hb.mpr h)]
  · rw [if_neg h]
    refine ev_go hd ?_
    rw [hs, if_neg (fun q => h (hb.mp q))]
theorem bc_eq {a b : Int} : bcnd .eq a b = true ↔ a = b := decide_eq_true_iff
theorem bc_ne {a b : Int} : bcnd .ne a b = true ↔ ¬ a = b := by simp [bcnd]
theorem bc_lt {a b : Int} : bcnd .lt a b = true ↔ a < b := decide_eq_true_iff
theorem bc_ge {a b : Int} : bcnd .ge a b = true ↔ b ≤ a := decide_eq_true_iff
theorem bc_gt {a b : Int} : bcnd .gt a b = true ↔ b < a := decide_eq_true_iff
theorem bc_le {a b : Int} : bcnd .le a b = true ↔ a ≤ b := decide_eq_true_iff
theorem bc_qn {a b : Option (Nat × Int)} : (!decide (a = b)) = true ↔ ¬ a = b := by simp
theorem bc_non {a : Option (Nat × Int)} : a.isNone = true ↔ a = none := by simp
theorem bc_som {a : Option (Nat × Int)} : a.isSome = true ↔ ¬ a = none := by cases a <;> simp
theorem ev_cd {y pc : Nat} {L st : List AV} {σ : aM} {i : Instr} {pc' : Nat} {L' st' : List AV} {σ' : aM} {c : Prop} [Decidable c] (hd : fetch y pc = some i) (hs : stp y i pc L st σ = if c then go1 pc' L' st' σ' else none) (hc : c) : ev y pc L st σ = ev y pc' L' st' σ' := ev_go hd (by rw [hs, if_pos hc])
theorem aLen_n {t n : Nat} {σ : aM} (hn : t ≠ 34) (hl : fL t = n) : aLen σ t = (n : Int) := by
  unfold aLen
  rw [if_neg hn, hl]
theorem ev_ld {y pc : Nat} {L st r : List AV} {σ : aM} {i : Instr} {t T n : Nat} {j a : Int} {v : AV} (hd : fetch y pc = some i) (hs : stp y i pc L st σ = ldA t j a σ T pc L r v) (hT : fT t = T) (hn : t ≠ 34) (hl : fL t = n) (h : 0 ≤ a ∧ a < (n : Int)) : ev y pc L st σ = ev y (pc + 1) L (v :: r) σ := by
  refine ev_go hd (hs.trans ?_)
  have hc : a < aLen σ t := by rw [aLen_n hn hl]; exact h.2
  unfold ldA
  rw [if_pos ⟨hT, h.1, hc⟩]
theorem ev_ldS {y pc : Nat} {L st r : List AV} {σ : aM} {i : Instr} {a : Int} {v : AV} (hd : fetch y pc = some i) (hs : stp y i pc L st σ = ldA 34 0 a σ 0 pc L r v) (h : 0 ≤ a ∧ a < gI σ 34 0 (-1)) : ev y pc L st σ = ev y (pc + 1) L (v :: r) σ := by
  refine ev_go hd (hs.trans ?_)
  have hc : a < aLen σ 34 := h.2
  unfold ldA
  rw [if_pos ⟨rfl, h.1, hc⟩]
theorem ev_st {y pc : Nat} {L st r : List AV} {σ σ' : aM} {i : Instr} {t n : Nat} {a : Int} {p : Prop} [Decidable p] {q : Prop} [Decidable q] (hd : fetch y pc = some i) (hs : stp y i pc L st σ = if p ∧ q ∧ (0 ≤ a ∧ a < aLen σ t) then go1 (pc + 1) L r σ' else none) (hp : p) (hq : q) (hn : t ≠ 34) (hl : fL t = n) (h : 0 ≤ a ∧ a < (n : Int)) : ev y pc L st σ = ev y (pc + 1) L r σ' := by
  refine ev_go hd (hs.trans ?_)
  have hc : a < aLen σ t := by rw [aLen_n hn hl]; exact h.2
  rw [if_pos ⟨hp, hq, h.1, hc⟩]
theorem ev_st1 {y pc : Nat} {L st r : List AV} {σ σ' : aM} {i : Instr} {t n : Nat} {a : Int} {p : Prop} [Decidable p] (hd : fetch y pc = some i) (hs : stp y i pc L st σ = if p ∧ (0 ≤ a ∧ a < aLen σ t) then go1 (pc + 1) L r σ' else none) (hp : p) (hn : t ≠ 34) (hl : fL t = n) (h : 0 ≤ a ∧ a < (n : Int)) : ev y pc L st σ = ev y (pc + 1) L r σ' := by
  refine ev_go hd (hs.trans ?_)
  have hc : a < aLen σ t := by rw [aLen_n hn hl]; exact h.2
  rw [if_pos ⟨hp, h.1, hc⟩]
theorem isB_of {v : Int} (h : v = 0 ∨ v = 1) : isB v = true := by
  rcases h with rfl | rfl <;> rfl
theorem ev_rB {y pc : Nat} {L st : List AV} {σ : aM} {i : Instr} {a : Int} {r : Option AV × aM} (hd : fetch y pc = some i) (hs : stp y i pc L st σ = if isB a = true then some (.inr (.inl r)) else none) (h : a = 0 ∨ a = 1) : ev y pc L st σ = some r := ev_ret hd (by rw [hs, if_pos (isB_of h)])
theorem ev_sw {y pc : Nat} {L st r : List AV} {σ : aM} {i : Instr} {a dflt lo hi : Int} {offs : Array Int} {t : Nat} (hd : fetch y pc = some i) (hs : stp y i pc L st σ = if a < lo ∨ hi < a then (match tg pc dflt with | some t => go1 t L r σ | none => none) else (match offs[(a - lo).toNat]? with | some off => (match tg pc off with | some t => go1 t L r σ | none => none) | none => none))
    (ho : a < lo ∨ hi < a) (ht : tg pc dflt = some t) : ev y pc L st σ = ev y t L r σ := by
  refine ev_go hd (hs.trans ?_)
  rw [if_pos ho, ht]
theorem inr32_of {a : Int} (h : -2147483648 ≤ a ∧ a < 2147483648) : inr32 a = true := by
  unfold inr32
  rw [decide_eq_true h.1, decide_eq_true h.2]
  rfl
end
section
/-! what the tables say of the small machine's tables; the heap's picture of its memory -/
def TX0 : u_T := fun k => match k with
  | 0 => ("UncrossedBook$Auction", "buysAt", "[I", true)
  | 1 => ("UncrossedBook$Auction", "sellsAt", "[I", true)
  | 2 => ("UncrossedBook$Auction", "price", "I", false)
  | _ => ("UncrossedBook$Auction", "volume", "I", false)
def tyX0 : Nat → FieldType := fun k => match k with
  | 0 => .array .int
  | 1 => .array .int
  | 2 => .int
  | _ => .int
def TX1 : u_T := fun k => match k with
  | 0 => ("UncrossedBook$Book", "orders", "[LUncrossedBook$Order;", true)
  | 1 => ("UncrossedBook$Book", "log", "LUncrossedBook$TradeLog;", true)
  | 2 => ("UncrossedBook$Book", "count", "I", false)
  | 3 => ("UncrossedBook$Book", "phase", "I", false)
  | 4 => ("UncrossedBook$Book", "rule", "I", false)
  | 5 => ("UncrossedBook$Book", "seed", "I", false)
  | _ => ("UncrossedBook$Book", "nextTime", "I", false)
def tyX1 : Nat → FieldType := fun k => match k with
  | 0 => .array (.object "UncrossedBook$Order")
  | 1 => .object "UncrossedBook$TradeLog"
  | 2 => .int
  | 3 => .int
  | 4 => .int
  | 5 => .int
  | _ => .int
def TX2 : u_T := fun k => match k with
  | 0 => ("UncrossedBook$Desk", "book", "LUncrossedBook$Book;", true)
  | _ => ("UncrossedBook$Desk", "passer", "LUncrossedBook$Order;", true)
def tyX2 : Nat → FieldType := fun k => match k with
  | 0 => .object "UncrossedBook$Book"
  | _ => .object "UncrossedBook$Order"
def TX3 : u_T := fun k => match k with
  | 0 => ("UncrossedBook$Order", "number", "I", true)
  | 1 => ("UncrossedBook$Order", "kind", "I", false)
  | 2 => ("UncrossedBook$Order", "owner", "I", false)
  | 3 => ("UncrossedBook$Order", "side", "I", false)
  | 4 => ("UncrossedBook$Order", "left", "I", false)
  | 5 => ("UncrossedBook$Order", "state", "I", false)
  | 6 => ("UncrossedBook$Order", "traded", "I", false)
  | 7 => ("UncrossedBook$Order", "price", "I", false)
  | 8 => ("UncrossedBook$Order", "detail", "I", false)
  | 9 => ("UncrossedBook$Order", "visible", "I", false)
  | _ => ("UncrossedBook$Order", "time", "I", false)
def tyX3 : Nat → FieldType := fun k => match k with
  | 0 => .int
  | 1 => .int
  | 2 => .int
  | 3 => .int
  | 4 => .int
  | 5 => .int
  | 6 => .int
  | 7 => .int
  | 8 => .int
  | 9 => .int
  | _ => .int
def TX4 : u_T := fun k => match k with
  | 0 => ("UncrossedBook$Ranking", "line", "[LUncrossedBook$Order;", true)
  | 1 => ("UncrossedBook$Ranking", "prices", "[I", true)
  | _ => ("UncrossedBook$Ranking", "size", "I", false)
def tyX4 : Nat → FieldType := fun k => match k with
  | 0 => .array (.object "UncrossedBook$Order")
  | 1 => .array .int
  | _ => .int
def TX5 : u_T := fun k => match k with
  | 0 => ("UncrossedBook$Shelf", "elements", "[J", true)
  | 1 => ("UncrossedBook$Shelf", "size", "I", false)
  | 2 => ("UncrossedBook$Shelf", "sort", "I", false)
  | _ => ("UncrossedBook$Shelf", "order", "I", false)
def tyX5 : Nat → FieldType := fun k => match k with
  | 0 => .array .long
  | 1 => .int
  | 2 => .int
  | _ => .int
def TX6 : u_T := fun k => match k with
  | 0 => ("UncrossedBook$TextReader", "owners", "[I", true)
  | 1 => ("UncrossedBook$TextReader", "sides", "[I", true)
  | 2 => ("UncrossedBook$TextReader", "quantities", "[I", true)
  | 3 => ("UncrossedBook$TextReader", "prices", "[I", true)
  | 4 => ("UncrossedBook$TextReader", "shows", "[I", true)
  | 5 => ("UncrossedBook$TextReader", "count", "I", false)
  | 6 => ("UncrossedBook$TextReader", "place", "I", false)
  | _ => ("UncrossedBook$TextReader", "fault", "I", false)
def tyX6 : Nat → FieldType := fun k => match k with
  | 0 => .array .int
  | 1 => .array .int
  | 2 => .array .int
  | 3 => .array .int
  | 4 => .array .int
  | 5 => .int
  | 6 => .int
  | _ => .int
def TX7 : u_T := fun k => match k with
  | 0 => ("UncrossedBook$TradeLog", "fours", "[I", true)
  | 1 => ("UncrossedBook$TradeLog", "positions", "[I", true)
  | 2 => ("UncrossedBook$TradeLog", "cash", "[I", true)
  | 3 => ("UncrossedBook$TradeLog", "count", "I", false)
  | _ => ("UncrossedBook$TradeLog", "last", "I", false)
def tyX7 : Nat → FieldType := fun k => match k with
  | 0 => .array .int
  | 1 => .array .int
  | 2 => .array .int
  | 3 => .int
  | _ => .int
def TX8 : u_T := fun k => match k with
  | 0 => ("UncrossedBook", "shelves", "[LUncrossedBook$Shelf;", true)
  | 1 => ("UncrossedBook", "refusals", "[I", true)
  | 2 => ("UncrossedBook", "desk", "LUncrossedBook$Desk;", true)
  | 3 => ("UncrossedBook", "book", "LUncrossedBook$Book;", true)
  | 4 => ("UncrossedBook", "auction", "LUncrossedBook$Auction;", true)
  | 5 => ("UncrossedBook", "ranking", "LUncrossedBook$Ranking;", true)
  | 6 => ("UncrossedBook", "reader", "LUncrossedBook$TextReader;", true)
  | 7 => ("UncrossedBook", "taken", "LUncrossedBook$Book;", true)
  | 8 => ("UncrossedBook", "hasImage", "Z", false)
  | _ => ("UncrossedBook", "latestFault", "I", false)
def tyX8 : Nat → FieldType := fun k => match k with
  | 0 => .array (.object "UncrossedBook$Shelf")
  | 1 => .array .int
  | 2 => .object "UncrossedBook$Desk"
  | 3 => .object "UncrossedBook$Book"
  | 4 => .object "UncrossedBook$Auction"
  | 5 => .object "UncrossedBook$Ranking"
  | 6 => .object "UncrossedBook$TextReader"
  | 7 => .object "UncrossedBook$Book"
  | 8 => .boolean
  | _ => .int
def TX9 : u_T := fun k => match k with
  | 0 => ("UncrossedBookModel", "thrown", "I", false)
  | 1 => ("UncrossedBookModel", "s", "[I", true)
  | 2 => ("UncrossedBookModel", "image", "[I", true)
  | 3 => ("UncrossedBookModel", "hasImage", "Z", false)
  | 4 => ("UncrossedBookModel", "refusals", "[I", true)
  | 5 => ("UncrossedBookModel", "sorts", "[I", true)
  | 6 => ("UncrossedBookModel", "sizes", "[I", true)
  | 7 => ("UncrossedBookModel", "items", "[J", true)
  | 8 => ("UncrossedBookModel", "copied", "[J", true)
  | 9 => ("UncrossedBookModel", "inOwner", "I", false)
  | 10 => ("UncrossedBookModel", "inSide", "I", false)
  | 11 => ("UncrossedBookModel", "inLeft", "I", false)
  | 12 => ("UncrossedBookModel", "inTraded", "I", false)
  | 13 => ("UncrossedBookModel", "isBarred", "Z", false)
  | 14 => ("UncrossedBookModel", "wasMet", "Z", false)
  | 15 => ("UncrossedBookModel", "text", "I", false)
  | 16 => ("UncrossedBookModel", "spot", "I", false)
  | 17 => ("UncrossedBookModel", "isWrong", "Z", false)
  | 18 => ("UncrossedBookModel", "fault", "I", false)
  | 19 => ("UncrossedBookModel", "volumeBuys", "I", false)
  | 20 => ("UncrossedBookModel", "volumeSells", "I", false)
  | 21 => ("UncrossedBookModel", "crossVolume", "I", false)
  | _ => ("UncrossedBookModel", "hasCrossed", "[Z", true)
def tyX9 : Nat → FieldType := fun k => match k with
  | 0 => .int
  | 1 => .array .int
  | 2 => .array .int
  | 3 => .boolean
  | 4 => .array .int
  | 5 => .array .int
  | 6 => .array .int
  | 7 => .array .long
  | 8 => .array .long
  | 9 => .int
  | 10 => .int
  | 11 => .int
  | 12 => .int
  | 13 => .boolean
  | 14 => .boolean
  | 15 => .int
  | 16 => .int
  | 17 => .boolean
  | 18 => .int
  | 19 => .int
  | 20 => .int
  | 21 => .int
  | _ => .array .boolean
def cT : Nat → u_T := fun c => match c with
  | 0 => TX0
  | 1 => TX1
  | 2 => TX2
  | 3 => TX3
  | 4 => TX4
  | 5 => TX5
  | 6 => TX6
  | 7 => TX7
  | 8 => TX8
  | _ => TX9
def cY : Nat → Nat → FieldType := fun c => match c with
  | 0 => tyX0
  | 1 => tyX1
  | 2 => tyX2
  | 3 => tyX3
  | 4 => tyX4
  | 5 => tyX5
  | 6 => tyX6
  | 7 => tyX7
  | 8 => tyX8
  | _ => tyX9
def cS (c : Nat) : Nat := (kinds.getD c []).length
abbrev vwCl : List vw_C := [(cN 0, TX0, 4), (cN 1, TX1, 7), (cN 2, TX2, 2), (cN 3, TX3, 11), (cN 4, TX4, 3), (cN 5, TX5, 4), (cN 6, TX6, 8), (cN 7, TX7, 5), (cN 8, TX8, 10), (cN 9, TX9, 23)]
theorem lt10 {P : Nat → Prop} (h0 : P 0) (h1 : P 1) (h2 : P 2) (h3 : P 3) (h4 : P 4) (h5 : P 5) (h6 : P 6) (h7 : P 7) (h8 : P 8) (h9 : P 9) : ∀ c, c < 10 → P c := fun c hc => match c, hc with
  | 0, _ => h0
  | 1, _ => h1
  | 2, _ => h2
  | 3, _ => h3
  | 4, _ => h4
  | 5, _ => h5
  | 6, _ => h6
  | 7, _ => h7
  | 8, _ => h8
  | 9, _ => h9
  | n + 10, h => absurd h (by omega)
theorem vw_at : ∀ c, c < 10 → vwCl[c]? = some (cN c, cT c, cS c) := lt10 rfl rfl rfl rfl rfl rfl rfl rfl rfl rfl
theorem cY_ok : ∀ c, c < 10 → ∀ k, k < cS c → parseFieldDescriptor (cT c k).2.2.1 = some (cY c k) := lt10 (by decide +kernel) (by decide +kernel) (by decide +kernel) (by decide +kernel) (by decide +kernel) (by decide +kernel) (by decide +kernel) (by decide +kernel) (by decide +kernel) (by decide +kernel)
theorem cN_ap : ∀ c, c < 10 → ∀ a, a < cS c → ∀ b, b < cS c → a ≠ b → (cT c a).2.1 ≠ (cT c b).2.1 := lt10 (by decide +kernel) (by decide +kernel) (by decide +kernel) (by decide +kernel) (by decide +kernel) (by decide +kernel) (by decide +kernel) (by decide +kernel) (by decide +kernel) (by decide +kernel)
theorem cW_in : ∀ c, c < 10 → ∀ w ∈ u_ws (cN c) (cT c) (cS c), w ∈ lw_tbl := lt10 (by decide +kernel) (by decide +kernel) (by decide +kernel) (by decide +kernel) (by decide +kernel) (by decide +kernel) (by decide +kernel) (by decide +kernel) (by decide +kernel) (by decide +kernel)
/-- a word by its place -/
def wP (p : Nat) : Option Cond := match p / 1000 with
  | 0 => (k2_sels lw_privs)[p % 1000]?
  | 1 => tables_1_1[p % 1000]?
  | 2 => tables_1_2[p % 1000]?
  | 3 => tables_1_3[p % 1000]?
  | 4 => tables_1_4[p % 1000]?
  | 5 => tables_1_5[p % 1000]?
  | 6 => tables_1_6[p % 1000]?
  | _ => none
theorem wP_mem {p : Nat} {w : Cond} (h : wP p = some w) : w ∈ lw_tbl := by
  unfold lw_tbl tables_1
  unfold wP at h
  split at h
  · exact List.mem_append_left _ (List.mem_of_getElem? h)
  · exact List.mem_append_right _ (List.mem_append_left _ (List.mem_of_getElem? h))
  · exact List.mem_append_right _ (List.mem_append_right _ (List.mem_append_left _ (List.mem_of_getElem? h)))
  · exact List.mem_append_right _ (List.mem_append_right _ (List.mem_append_right _ (List.mem_append_left _ (List.mem_of_getElem? h))))
  · exact List.mem_append_right _ (List.mem_append_right _ (List.mem_append_right _ (List.mem_append_right _ (List.mem_append_left _ (List.mem_of_getElem? h)))))
  · exact List.mem_append_right _ (List.mem_append_right _ (List.mem_append_right _ (List.mem_append_right _ (List.mem_append_right _ (List.mem_append_left _ (List.mem_of_getElem? h))))))
  · exact List.mem_append_right _ (List.mem_append_right _ (List.mem_append_right _ (List.mem_append_right _ (List.mem_append_right _ (List.mem_append_right _ (List.mem_of_getElem? h))))))
  · cases h
/-- the words that keep -/
def TB : List Cond := lw_tbl.filter goodWord
theorem inTB {w : Cond} (h : w ∈ lw_tbl) (hg : goodWord w = true) : w ∈ TB := List.mem_filter.mpr ⟨h, hg⟩
theorem TB_good {w : Cond} (h : w ∈ TB) : goodWord w = true := (List.mem_filter.mp h).2
theorem getD_out {α : Type} {l : List α} {n : Nat} {d : α} (h : l.length ≤ n) : l.getD n d = d := by
  rw [List.getD_eq_getElem?_getD, List.getElem?_eq_none h]
  rfl
theorem slot_ok : ∀ c, c < 10 → ∀ k, k < cS c → (sK c k = 0 ∧ (cT c k).2.2.2 = false ∧ parseFieldDescriptor (cT c k).2.2.1 = some .int) ∨ (sK c k = 1 ∧ (cT c k).2.2.2 = false ∧ parseFieldDescriptor (cT c k).2.2.1 = some .boolean) ∨ sK c k = 2 ∨ sK c k = 3 := lt10 (by decide +kernel) (by decide +kernel) (by decide +kernel) (by decide +kernel) (by decide +kernel) (by decide +kernel) (by decide +kernel) (by decide +kernel) (by decide +kernel) (by decide +kernel)
theorem fld_tbl : ∀ o, o < 10 → ∀ q ∈ fldT.getD o [], q.2.1.1 < 10 ∧ q.2.1.2 < cS q.2.1.1 ∧ wP q.2.2 = some (Cond.fieldLink (cN o) q.1 (cT q.2.1.1 q.2.1.2).1 (cT q.2.1.1 q.2.1.2).2.1 (cT q.2.1.1 q.2.1.2).2.2.1) := lt10 (by decide +kernel) (by decide +kernel) (by decide +kernel) (by decide +kernel) (by decide +kernel) (by decide +kernel) (by decide +kernel) (by decide +kernel) (by decide +kernel) (by decide +kernel)
theorem fld_none : ∀ o, ¬ o < 10 → fldT.getD o [] = [] := by
  intro o h
  rcases (show o = 10 ∨ o = 11 ∨ o = 12 ∨ 13 ≤ o by omega) with rfl | rfl | rfl | h
  · rfl
  · rfl
  · rfl
  · rw [getD_out]
    exact Nat.le_trans (Nat.le_of_ble_eq_true rfl) h
theorem fld_ok {o x c k : Nat} (h : fld o x = some (c, k)) : c < 10 ∧ k < cS c ∧ Cond.fieldLink (cN o) x (cT c k).1 (cT c k).2.1 (cT c k).2.2.1 ∈ lw_tbl := by
  unfold fld at h
  cases hf : (fldT.getD o []).find? (fun q => q.1 == x) with
  | none => rw [hf] at h; cases h
  | some q =>
    rw [hf] at h
    obtain ⟨x', ⟨c', k'⟩, p⟩ := q
    have hm := List.mem_of_find?_eq_some hf
    have hx := List.find?_some hf
    have hx : x' = x := by simpa using hx
    simp only [Option.map_some, Option.some.injEq, Prod.mk.injEq] at h
    obtain ⟨rfl, rfl⟩ := h
    subst hx
    by_cases ho : o < 10
    · obtain ⟨h1, h2, h3⟩ := fld_tbl o ho _ hm
      exact ⟨h1, h2, wP_mem h3⟩
    · rw [fld_none o ho] at hm
      cases hm
/-- what a call's words are, by its row -/
def siteOk (o : Nat) (q : Nat × (Nat × Nat × Nat) × Nat) : Bool := match q with
  | (x, (0, n, y), p) => decide (y < 213) && decide (mC y < 10) && decide ((parseMethodDescriptor (mNm y).desc).map (fun d => d.parameters.length) = some n) && decide (wP p = some (Cond.methodLink (cN o) x (mNm y))) && decide (wP (mPt.getD y (9999, 9999, 9999)).2.1 = some (Cond.instanceMethod (mNm y))) && decide (wP (mPt.getD y (9999, 9999, 9999)).2.2 = some (Cond.selects (cN (mC y)) (mNm y) (mNm y)))
  | (x, (1, n, y), p) => decide (y < 213) && decide ((parseMethodDescriptor (mNm y).desc).map (fun d => d.parameters.length) = some n) && decide (wP p = some (Cond.methodLink (cN o) x (mNm y))) && decide (wP (mPt.getD y (9999, 9999, 9999)).2.1 = some (Cond.static (mNm y)))
  | (x, (2, n, y), p) => decide (y < 213) && decide ((parseMethodDescriptor (mNm y).desc).map (fun d => d.parameters.length) = some n) && decide (wP p = some (Cond.methodLinkNest (cN o) x (mNm y) "UncrossedBook")) && decide (wP (mPt.getD y (9999, 9999, 9999)).2.1 = some (Cond.static (mNm y)))
  | (x, (3, _, _), p) => decide (wP p = some (Cond.methodLink (cN o) x arraycopyName))
  | (x, (4, _, _), p) => decide (wP p = some (Cond.methodLink (cN o) x Lib.Math.min.name))
  | (x, (5, _, _), p) => decide (wP p = some (Cond.methodLink (cN o) x Lib.Math.abs.name))
  | _ => false
theorem site_tbl0 : ∀ o, o < 10 → (siteT.getD o []).all (siteOk o) = true := lt10 (by decide +kernel) (by decide +kernel) (by decide +kernel) (by decide +kernel) (by decide +kernel) (by decide +kernel) (by decide +kernel) (by decide +kernel) (by decide +kernel) (by decide +kernel)
theorem site_tbl12 : (siteT.getD 12 []).all (siteOk 12) = true := by decide +kernel
theorem site_tbl (o : Nat) : (siteT.getD o []).all (siteOk o) = true := by
  rcases (show o < 10 ∨ o = 10 ∨ o = 11 ∨ o = 12 ∨ 13 ≤ o by omega) with h | rfl | rfl | rfl | h
  · exact site_tbl0 o h
  · rfl
  · rfl
  · exact site_tbl12
  · rw [getD_out]
    · rfl
    · exact Nat.le_trans (Nat.le_of_ble_eq_true rfl) h
theorem site_ok {o x : Nat} {q : Nat × Nat × Nat} (h : site o x = some q) : ∃ p, siteOk o (x, q, p) = true := by
  unfold site at h
  cases hf : (siteT.getD o []).find? (fun q => q.1 == x) with
  | none => rw [hf] at h; cases h
  | some p =>
    rw [hf] at h
    obtain ⟨x', p', pl⟩ := p
    have hm := List.mem_of_find?_eq_some hf
    have hx := List.find?_some hf
    have hx : x' = x := by simpa using hx
    simp only [Option.map_some, Option.some.injEq] at h
    subst h; subst hx
    exact ⟨pl, List.all_eq_true.mp (site_tbl o) _ hm⟩
theorem acp_ok : Cond.native arraycopyName ∈ TB ∧ Cond.static arraycopyName ∈ TB ∧ Cond.initialized "java/lang/System" ∈ TB := ⟨inTB (wP_mem (p := 2131) (by decide +kernel)) rfl, inTB (wP_mem (p := 2130) (by decide +kernel)) rfl, inTB (wP_mem (p := 1012) (by decide +kernel)) rfl⟩
theorem mth_ok : (Cond.static Lib.Math.min.name ∈ TB ∧ Cond.code Lib.Math.min.name Lib.Math.min.code 2 (some .int) ∈ TB) ∧ (Cond.static Lib.Math.abs.name ∈ TB ∧ Cond.code Lib.Math.abs.name Lib.Math.abs.code 1 (some .int) ∈ TB) := ⟨⟨inTB (wP_mem (p := 2224) (by decide +kernel)) rfl, inTB (wP_mem (p := 2225) (by decide +kernel)) rfl⟩, inTB (wP_mem (p := 3168) (by decide +kernel)) rfl, inTB (wP_mem (p := 3169) (by decide +kernel)) rfl⟩
theorem ini_ok : ∀ c, c < 12 → wP (iPt.getD c 9999) = some (Cond.initialized (cN c)) := by decide +kernel
/-- a method's words -/
def mOk (y : Nat) : Bool := plainName (cN (mC y)) && decide (cN (mC y) ≠ "java/lang/invoke/MethodHandle") && decide (cN (mC y) ≠ "java/lang/invoke/VarHandle") && decide (mC y < 12)
theorem m_tbl : (List.range 213).all mOk = true := by decide +kernel
theorem m_ok {y : Nat} (h : y < 213) : mOk y = true := List.all_eq_true.mp m_tbl y (List.mem_range.mpr h)
def mCw (y : Nat) : Prop := Cond.code (mNm y) (mCd y) (mL y) (mRt y) ∈ lw_tbl
theorem mc_0 : mCw 0 := wP_mem (p := 1186) rfl
theorem mc_1 : mCw 1 := wP_mem (p := 3157) rfl
theorem mc_2 : mCw 2 := wP_mem (p := 3161) rfl
theorem mc_3 : mCw 3 := wP_mem (p := 1034) rfl
theorem mc_4 : mCw 4 := wP_mem (p := 4063) rfl
theorem mc_5 : mCw 5 := wP_mem (p := 2144) rfl
theorem mc_6 : mCw 6 := wP_mem (p := 2229) rfl
theorem mc_7 : mCw 7 := wP_mem (p := 2218) rfl
theorem mc_8 : mCw 8 := wP_mem (p := 2176) rfl
theorem mc_9 : mCw 9 := wP_mem (p := 2172) rfl
theorem mc_10 : mCw 10 := wP_mem (p := 2168) rfl
theorem mc_11 : mCw 11 := wP_mem (p := 3181) rfl
theorem mc_12 : mCw 12 := wP_mem (p := 4050) rfl
theorem mc_13 : mCw 13 := wP_mem (p := 1028) rfl
theorem mc_14 : mCw 14 := wP_mem (p := 2210) rfl
theorem mc_15 : mCw 15 := wP_mem (p := 3088) rfl
theorem mc_16 : mCw 16 := wP_mem (p := 3145) rfl
theorem mc_17 : mCw 17 := wP_mem (p := 3173) rfl
theorem mc_18 : mCw 18 := wP_mem (p := 2233) rfl
theorem mc_19 : mCw 19 := wP_mem (p := 3043) rfl
theorem mc_20 : mCw 20 := wP_mem (p := 3068) rfl
theorem mc_21 : mCw 21 := wP_mem (p := 3053) rfl
theorem mc_22 : mCw 22 := wP_mem (p := 3047) rfl
theorem mc_23 : mCw 23 := wP_mem (p := 3004) rfl
theorem mc_24 : mCw 24 := wP_mem (p := 2237) rfl
theorem mc_25 : mCw 25 := wP_mem (p := 3020) rfl
theorem mc_26 : mCw 26 := wP_mem (p := 3037) rfl
theorem mc_27 : mCw 27 := wP_mem (p := 3025) rfl
theorem mc_28 : mCw 28 := wP_mem (p := 3008) rfl
theorem mc_29 : mCw 29 := wP_mem (p := 3012) rfl
theorem mc_30 : mCw 30 := wP_mem (p := 3057) rfl
theorem mc_31 : mCw 31 := wP_mem (p := 3061) rfl
theorem mc_32 : mCw 32 := wP_mem (p := 3065) rfl
theorem mc_33 : mCw 33 := wP_mem (p := 1070) rfl
theorem mc_34 : mCw 34 := wP_mem (p := 2214) rfl
theorem mc_35 : mCw 35 := wP_mem (p := 4067) rfl
theorem mc_36 : mCw 36 := wP_mem (p := 2160) rfl
theorem mc_37 : mCw 37 := wP_mem (p := 3141) rfl
theorem mc_38 : mCw 38 := wP_mem (p := 2180) rfl
theorem mc_39 : mCw 39 := wP_mem (p := 2164) rfl
theorem mc_40 : mCw 40 := wP_mem (p := 2188) rfl
theorem mc_41 : mCw 41 := wP_mem (p := 2184) rfl
theorem mc_42 : mCw 42 := wP_mem (p := 3033) rfl
theorem mc_43 : mCw 43 := wP_mem (p := 3016) rfl
theorem mc_44 : mCw 44 := wP_mem (p := 2222) rfl
theorem mc_45 : mCw 45 := wP_mem (p := 1207) rfl
theorem mc_46 : mCw 46 := wP_mem (p := 3201) rfl
theorem mc_47 : mCw 47 := wP_mem (p := 3208) rfl
theorem mc_48 : mCw 48 := wP_mem (p := 3213) rfl
theorem mc_49 : mCw 49 := wP_mem (p := 3221) rfl
theorem mc_50 : mCw 50 := wP_mem (p := 3225) rfl
theorem mc_51 : mCw 51 := wP_mem (p := 3234) rfl
theorem mc_52 : mCw 52 := wP_mem (p := 4004) rfl
theorem mc_53 : mCw 53 := wP_mem (p := 2022) rfl
theorem mc_54 : mCw 54 := wP_mem (p := 2092) rfl
theorem mc_55 : mCw 55 := wP_mem (p := 2148) rfl
theorem mc_56 : mCw 56 := wP_mem (p := 2088) rfl
theorem mc_57 : mCw 57 := wP_mem (p := 2111) rfl
theorem mc_58 : mCw 58 := wP_mem (p := 2107) rfl
theorem mc_59 : mCw 59 := wP_mem (p := 2115) rfl
theorem mc_60 : mCw 60 := wP_mem (p := 2128) rfl
theorem mc_61 : mCw 61 := wP_mem (p := 2119) rfl
theorem mc_62 : mCw 62 := wP_mem (p := 3112) rfl
theorem mc_63 : mCw 63 := wP_mem (p := 1224) rfl
theorem mc_64 : mCw 64 := wP_mem (p := 3096) rfl
theorem mc_65 : mCw 65 := wP_mem (p := 3100) rfl
theorem mc_66 : mCw 66 := wP_mem (p := 3108) rfl
theorem mc_67 : mCw 67 := wP_mem (p := 3116) rfl
theorem mc_68 : mCw 68 := wP_mem (p := 3104) rfl
theorem mc_69 : mCw 69 := wP_mem (p := 3120) rfl
theorem mc_70 : mCw 70 := wP_mem (p := 3124) rfl
theorem mc_71 : mCw 71 := wP_mem (p := 1042) rfl
theorem mc_72 : mCw 72 := wP_mem (p := 4071) rfl
theorem mc_73 : mCw 73 := wP_mem (p := 3029) rfl
theorem mc_74 : mCw 74 := wP_mem (p := 4017) rfl
theorem mc_75 : mCw 75 := wP_mem (p := 4021) rfl
theorem mc_76 : mCw 76 := wP_mem (p := 4040) rfl
theorem mc_77 : mCw 77 := wP_mem (p := 1018) rfl
theorem mc_78 : mCw 78 := wP_mem (p := 2077) rfl
theorem mc_79 : mCw 79 := wP_mem (p := 2099) rfl
theorem mc_80 : mCw 80 := wP_mem (p := 2124) rfl
theorem mc_81 : mCw 81 := wP_mem (p := 2135) rfl
theorem mc_82 : mCw 82 := wP_mem (p := 2139) rfl
theorem mc_83 : mCw 83 := wP_mem (p := 2152) rfl
theorem mc_84 : mCw 84 := wP_mem (p := 2156) rfl
theorem mc_85 : mCw 85 := wP_mem (p := 2195) rfl
theorem mc_86 : mCw 86 := wP_mem (p := 3072) rfl
theorem mc_87 : mCw 87 := wP_mem (p := 3076) rfl
theorem mc_88 : mCw 88 := wP_mem (p := 3080) rfl
theorem mc_89 : mCw 89 := wP_mem (p := 3084) rfl
theorem mc_90 : mCw 90 := wP_mem (p := 3092) rfl
theorem mc_91 : mCw 91 := wP_mem (p := 3129) rfl
theorem mc_92 : mCw 92 := wP_mem (p := 3133) rfl
theorem mc_93 : mCw 93 := wP_mem (p := 3137) rfl
theorem mc_94 : mCw 94 := wP_mem (p := 3149) rfl
theorem mc_95 : mCw 95 := wP_mem (p := 3153) rfl
theorem mc_96 : mCw 96 := wP_mem (p := 3177) rfl
theorem mc_97 : mCw 97 := wP_mem (p := 3185) rfl
theorem mc_98 : mCw 98 := wP_mem (p := 3189) rfl
theorem mc_99 : mCw 99 := wP_mem (p := 3193) rfl
theorem mc_100 : mCw 100 := wP_mem (p := 3217) rfl
theorem mc_101 : mCw 101 := wP_mem (p := 3230) rfl
theorem mc_102 : mCw 102 := wP_mem (p := 3238) rfl
theorem mc_103 : mCw 103 := wP_mem (p := 4009) rfl
theorem mc_104 : mCw 104 := wP_mem (p := 4013) rfl
theorem mc_105 : mCw 105 := wP_mem (p := 4026) rfl
theorem mc_106 : mCw 106 := wP_mem (p := 4031) rfl
theorem mc_107 : mCw 107 := wP_mem (p := 4036) rfl
theorem mc_108 : mCw 108 := wP_mem (p := 4046) rfl
theorem mc_109 : mCw 109 := wP_mem (p := 4055) rfl
theorem mc_110 : mCw 110 := wP_mem (p := 4059) rfl
theorem mc_111 : mCw 111 := wP_mem (p := 4076) rfl
theorem mc_112 : mCw 112 := wP_mem (p := 4080) rfl
theorem mc_113 : mCw 113 := wP_mem (p := 2084) rfl
theorem mc_114 : mCw 114 := wP_mem (p := 3197) rfl
theorem mc_115 : mCw 115 := wP_mem (p := 2103) rfl
theorem mc_116 : mCw 116 := wP_mem (p := 2200) rfl
theorem mc_117 : mCw 117 := wP_mem (p := 2080) rfl
theorem mc_118 : mCw 118 := wP_mem (p := 2203) rfl
theorem mc_119 : mCw 119 := wP_mem (p := 2206) rfl
theorem mc_120 : mCw 120 := wP_mem (p := 2191) rfl
theorem mc_121 : mCw 121 := wP_mem (p := 3000) rfl
theorem mc_122 : mCw 122 := wP_mem (p := 4085) rfl
theorem mc_123 : mCw 123 := wP_mem (p := 4166) rfl
theorem mc_124 : mCw 124 := wP_mem (p := 4170) rfl
theorem mc_125 : mCw 125 := wP_mem (p := 5201) rfl
theorem mc_126 : mCw 126 := wP_mem (p := 4198) rfl
theorem mc_127 : mCw 127 := wP_mem (p := 4219) rfl
theorem mc_128 : mCw 128 := wP_mem (p := 4216) rfl
theorem mc_129 : mCw 129 := wP_mem (p := 4209) rfl
theorem mc_130 : mCw 130 := wP_mem (p := 4163) rfl
theorem mc_131 : mCw 131 := wP_mem (p := 4160) rfl
theorem mc_132 : mCw 132 := wP_mem (p := 4178) rfl
theorem mc_133 : mCw 133 := wP_mem (p := 4174) rfl
theorem mc_134 : mCw 134 := wP_mem (p := 4182) rfl
theorem mc_135 : mCw 135 := wP_mem (p := 4190) rfl
theorem mc_136 : mCw 136 := wP_mem (p := 4186) rfl
theorem mc_137 : mCw 137 := wP_mem (p := 4194) rfl
theorem mc_138 : mCw 138 := wP_mem (p := 4202) rfl
theorem mc_139 : mCw 139 := wP_mem (p := 5019) rfl
theorem mc_140 : mCw 140 := wP_mem (p := 5015) rfl
theorem mc_141 : mCw 141 := wP_mem (p := 5023) rfl
theorem mc_142 : mCw 142 := wP_mem (p := 5011) rfl
theorem mc_143 : mCw 143 := wP_mem (p := 5050) rfl
theorem mc_144 : mCw 144 := wP_mem (p := 5042) rfl
theorem mc_145 : mCw 145 := wP_mem (p := 5007) rfl
theorem mc_146 : mCw 146 := wP_mem (p := 5197) rfl
theorem mc_147 : mCw 147 := wP_mem (p := 5038) rfl
theorem mc_148 : mCw 148 := wP_mem (p := 5026) rfl
theorem mc_149 : mCw 149 := wP_mem (p := 5058) rfl
theorem mc_150 : mCw 150 := wP_mem (p := 5062) rfl
theorem mc_151 : mCw 151 := wP_mem (p := 4239) rfl
theorem mc_152 : mCw 152 := wP_mem (p := 4235) rfl
theorem mc_153 : mCw 153 := wP_mem (p := 4231) rfl
theorem mc_154 : mCw 154 := wP_mem (p := 5054) rfl
theorem mc_155 : mCw 155 := wP_mem (p := 5046) rfl
theorem mc_156 : mCw 156 := wP_mem (p := 5034) rfl
theorem mc_157 : mCw 157 := wP_mem (p := 5030) rfl
theorem mc_158 : mCw 158 := wP_mem (p := 5070) rfl
theorem mc_159 : mCw 159 := wP_mem (p := 5066) rfl
theorem mc_160 : mCw 160 := wP_mem (p := 4223) rfl
theorem mc_161 : mCw 161 := wP_mem (p := 5003) rfl
theorem mc_162 : mCw 162 := wP_mem (p := 4227) rfl
theorem mc_163 : mCw 163 := wP_mem (p := 4213) rfl
theorem mc_164 : mCw 164 := wP_mem (p := 4206) rfl
theorem mc_165 : mCw 165 := wP_mem (p := 5074) rfl
theorem mc_166 : mCw 166 := wP_mem (p := 5078) rfl
theorem mc_167 : mCw 167 := wP_mem (p := 5082) rfl
theorem mc_168 : mCw 168 := wP_mem (p := 5086) rfl
theorem mc_169 : mCw 169 := wP_mem (p := 5106) rfl
theorem mc_170 : mCw 170 := wP_mem (p := 5110) rfl
theorem mc_171 : mCw 171 := wP_mem (p := 5102) rfl
theorem mc_172 : mCw 172 := wP_mem (p := 5118) rfl
theorem mc_173 : mCw 173 := wP_mem (p := 5114) rfl
theorem mc_174 : mCw 174 := wP_mem (p := 5098) rfl
theorem mc_175 : mCw 175 := wP_mem (p := 5094) rfl
theorem mc_176 : mCw 176 := wP_mem (p := 5090) rfl
theorem mc_177 : mCw 177 := wP_mem (p := 5122) rfl
theorem mc_178 : mCw 178 := wP_mem (p := 5130) rfl
theorem mc_179 : mCw 179 := wP_mem (p := 5126) rfl
theorem mc_180 : mCw 180 := wP_mem (p := 5134) rfl
theorem mc_181 : mCw 181 := wP_mem (p := 5138) rfl
theorem mc_182 : mCw 182 := wP_mem (p := 5150) rfl
theorem mc_183 : mCw 183 := wP_mem (p := 5153) rfl
theorem mc_184 : mCw 184 := wP_mem (p := 5146) rfl
theorem mc_185 : mCw 185 := wP_mem (p := 5157) rfl
theorem mc_186 : mCw 186 := wP_mem (p := 5161) rfl
theorem mc_187 : mCw 187 := wP_mem (p := 5142) rfl
theorem mc_188 : mCw 188 := wP_mem (p := 5169) rfl
theorem mc_189 : mCw 189 := wP_mem (p := 5165) rfl
theorem mc_190 : mCw 190 := wP_mem (p := 5173) rfl
theorem mc_191 : mCw 191 := wP_mem (p := 5181) rfl
theorem mc_192 : mCw 192 := wP_mem (p := 5177) rfl
theorem mc_193 : mCw 193 := wP_mem (p := 5185) rfl
theorem mc_194 : mCw 194 := wP_mem (p := 5193) rfl
theorem mc_195 : mCw 195 := wP_mem (p := 5189) rfl
theorem mc_196 : mCw 196 := wP_mem (p := 5205) rfl
theorem mc_197 : mCw 197 := wP_mem (p := 5209) rfl
theorem mc_198 : mCw 198 := wP_mem (p := 5213) rfl
theorem mc_199 : mCw 199 := wP_mem (p := 5218) rfl
theorem mc_200 : mCw 200 := wP_mem (p := 5226) rfl
theorem mc_201 : mCw 201 := wP_mem (p := 5222) rfl
theorem mc_202 : mCw 202 := wP_mem (p := 5230) rfl
theorem mc_203 : mCw 203 := wP_mem (p := 5235) rfl
theorem mc_204 : mCw 204 := wP_mem (p := 6000) rfl
theorem mc_205 : mCw 205 := wP_mem (p := 6008) rfl
theorem mc_206 : mCw 206 := wP_mem (p := 6004) rfl
theorem mc_207 : mCw 207 := wP_mem (p := 6013) rfl
theorem mc_208 : mCw 208 := wP_mem (p := 6017) rfl
theorem mc_209 : mCw 209 := wP_mem (p := 6021) rfl
theorem mc_210 : mCw 210 := wP_mem (p := 6025) rfl
theorem mc_211 : mCw 211 := wP_mem (p := 2095) rfl
theorem mc_212 : mCw 212 := wP_mem (p := 3164) rfl
set_option maxRecDepth 10000 in
theorem mcl_0 : ∀ y ∈ ([0, 1, 2, 3, 4, 5, 6, 7, 8, 9, 10, 11, 12, 13, 14, 15, 16, 17, 18, 19, 20, 21, 22, 23, 24, 25, 26, 27, 28, 29, 30, 31, 32, 33, 34, 35, 36, 37, 38, 39] : List Nat), mCw y := List.forall_mem_cons.mpr ⟨mc_0, List.forall_mem_cons.mpr ⟨mc_1, List.forall_mem_cons.mpr ⟨mc_2, List.forall_mem_cons.mpr ⟨mc_3, List.forall_mem_cons.mpr ⟨mc_4, List.forall_mem_cons.mpr ⟨mc_5, List.forall_mem_cons.mpr ⟨mc_6, List.forall_mem_cons.mpr ⟨mc_7, List.forall_mem_cons.mpr ⟨mc_8, List.forall_mem_cons.mpr ⟨mc_9, List.forall_mem_cons.mpr ⟨mc_10, List.forall_mem_cons.mpr ⟨mc_11, List.forall_mem_cons.mpr ⟨mc_12, List.forall_mem_cons.mpr ⟨mc_13, List.forall_mem_cons.mpr ⟨mc_14, List.forall_mem_cons.mpr ⟨mc_15, List.forall_mem_cons.mpr ⟨mc_16, List.forall_mem_cons.mpr ⟨mc_17, List.forall_mem_cons.mpr ⟨mc_18, List.forall_mem_cons.mpr ⟨mc_19, List.forall_mem_cons.mpr ⟨mc_20, List.forall_mem_cons.mpr ⟨mc_21, List.forall_mem_cons.mpr ⟨mc_22, List.forall_mem_cons.mpr ⟨mc_23, List.forall_mem_cons.mpr ⟨mc_24, List.forall_mem_cons.mpr ⟨mc_25, List.forall_mem_cons.mpr ⟨mc_26, List.forall_mem_cons.mpr ⟨mc_27, List.forall_mem_cons.mpr ⟨mc_28, List.forall_mem_cons.mpr ⟨mc_29, List.forall_mem_cons.mpr ⟨mc_30, List.forall_mem_cons.mpr ⟨mc_31, List.forall_mem_cons.mpr ⟨mc_32, List.forall_mem_cons.mpr ⟨mc_33, List.forall_mem_cons.mpr ⟨mc_34, List.forall_mem_cons.mpr ⟨mc_35, List.forall_mem_cons.mpr ⟨mc_36, List.forall_mem_cons.mpr ⟨mc_37, List.forall_mem_cons.mpr ⟨mc_38, List.forall_mem_cons.mpr ⟨mc_39, fun _ h => absurd h List.not_mem_nil⟩⟩⟩⟩⟩⟩⟩⟩⟩⟩⟩⟩⟩⟩⟩⟩⟩⟩⟩⟩⟩⟩⟩⟩⟩⟩⟩⟩⟩⟩⟩⟩⟩⟩⟩⟩⟩⟩⟩⟩
set_option maxRecDepth 10000 in
theorem mcl_1 : ∀ y ∈ ([40, 41, 42, 43, 44, 45, 46, 47, 48, 49, 50, 51, 52, 53, 54, 55, 56, 57, 58, 59, 60, 61, 62, 63, 64, 65, 66, 67, 68, 69, 70, 71, 72, 73, 74, 75, 76, 77, 78, 79] : List Nat), mCw y := List.forall_mem_cons.mpr ⟨mc_40, List.forall_mem_cons.mpr ⟨mc_41, List.forall_mem_cons.mpr ⟨mc_42, List.forall_mem_cons.mpr ⟨mc_43, List.forall_mem_cons.mpr ⟨mc_44, List.forall_mem_cons.mpr ⟨mc_45, List.forall_mem_cons.mpr ⟨mc_46, List.forall_mem_cons.mpr ⟨mc_47, List.forall_mem_cons.mpr ⟨mc_48, List.forall_mem_cons.mpr ⟨mc_49, List.forall_mem_cons.mpr ⟨mc_50, List.forall_mem_cons.mpr ⟨mc_51, List.forall_mem_cons.mpr ⟨mc_52, List.forall_mem_cons.mpr ⟨mc_53, List.forall_mem_cons.mpr ⟨mc_54, List.forall_mem_cons.mpr ⟨mc_55, List.forall_mem_cons.mpr ⟨mc_56, List.forall_mem_cons.mpr ⟨mc_57, List.forall_mem_cons.mpr ⟨mc_58, List.forall_mem_cons.mpr ⟨mc_59, List.forall_mem_cons.mpr ⟨mc_60, List.forall_mem_cons.mpr ⟨mc_61, List.forall_mem_cons.mpr ⟨mc_62, List.forall_mem_cons.mpr ⟨mc_63, List.forall_mem_cons.mpr ⟨mc_64, List.forall_mem_cons.mpr ⟨mc_65, List.forall_mem_cons.mpr ⟨mc_66, List.forall_mem_cons.mpr ⟨mc_67, List.forall_mem_cons.mpr ⟨mc_68, List.forall_mem_cons.mpr ⟨mc_69, List.forall_mem_cons.mpr ⟨mc_70, List.forall_mem_cons.mpr ⟨mc_71, List.forall_mem_cons.mpr ⟨mc_72, List.forall_mem_cons.mpr ⟨mc_73, List.forall_mem_cons.mpr ⟨mc_74, List.forall_mem_cons.mpr ⟨mc_75, List.forall_mem_cons.mpr ⟨mc_76, List.forall_mem_cons.mpr ⟨mc_77, List.forall_mem_cons.mpr ⟨mc_78, List.forall_mem_cons.mpr ⟨mc_79, fun _ h => absurd h List.not_mem_nil⟩⟩⟩⟩⟩⟩⟩⟩⟩⟩⟩⟩⟩⟩⟩⟩⟩⟩⟩⟩⟩⟩⟩⟩⟩⟩⟩⟩⟩⟩⟩⟩⟩⟩⟩⟩⟩⟩⟩⟩
set_option maxRecDepth 10000 in
theorem mcl_2 : ∀ y ∈ ([80, 81, 82, 83, 84, 85, 86, 87, 88, 89, 90, 91, 92, 93, 94, 95, 96, 97, 98, 99, 100, 101, 102, 103, 104, 105, 106, 107, 108, 109, 110, 111, 112, 113, 114, 115, 116, 117, 118, 119] : List Nat), mCw y := List.forall_mem_cons.mpr ⟨mc_80, List.forall_mem_cons.mpr ⟨mc_81, List.forall_mem_cons.mpr ⟨mc_82, List.forall_mem_cons.mpr ⟨mc_83, List.forall_mem_cons.mpr ⟨mc_84, List.forall_mem_cons.mpr ⟨mc_85, List.forall_mem_cons.mpr ⟨mc_86, List.forall_mem_cons.mpr ⟨mc_87, List.forall_mem_cons.mpr ⟨mc_88, List.forall_mem_cons.mpr ⟨mc_89, List.forall_mem_cons.mpr ⟨mc_90, List.forall_mem_cons.mpr ⟨mc_91, List.forall_mem_cons.mpr ⟨mc_92, List.forall_mem_cons.mpr ⟨mc_93, List.forall_mem_cons.mpr ⟨mc_94, List.forall_mem_cons.mpr ⟨mc_95, List.forall_mem_cons.mpr ⟨mc_96, List.forall_mem_cons.mpr ⟨mc_97, List.forall_mem_cons.mpr ⟨mc_98, List.forall_mem_cons.mpr ⟨mc_99, List.forall_mem_cons.mpr ⟨mc_100, List.forall_mem_cons.mpr ⟨mc_101, List.forall_mem_cons.mpr ⟨mc_102, List.forall_mem_cons.mpr ⟨mc_103, List.forall_mem_cons.mpr ⟨mc_104, List.forall_mem_cons.mpr ⟨mc_105, List.forall_mem_cons.mpr ⟨mc_106, List.forall_mem_cons.mpr ⟨mc_107, List.forall_mem_cons.mpr ⟨mc_108, List.forall_mem_cons.mpr ⟨mc_109, List.forall_mem_cons.mpr ⟨mc_110, List.forall_mem_cons.mpr ⟨mc_111, List.forall_mem_cons.mpr ⟨mc_112, List.forall_mem_cons.mpr ⟨mc_113, List.forall_mem_cons.mpr ⟨mc_114, List.forall_mem_cons.mpr ⟨mc_115, List.forall_mem_cons.mpr ⟨mc_116, List.forall_mem_cons.mpr ⟨mc_117, List.forall_mem_cons.mpr ⟨mc_118, List.forall_mem_cons.mpr ⟨mc_119, fun _ h => absurd h List.not_mem_nil⟩⟩⟩⟩⟩⟩⟩⟩⟩⟩⟩⟩⟩⟩⟩⟩⟩⟩⟩⟩⟩⟩⟩⟩⟩⟩⟩⟩⟩⟩⟩⟩⟩⟩⟩⟩⟩⟩⟩⟩
set_option maxRecDepth 10000 in
theorem mcl_3 : ∀ y ∈ ([120, 121, 122, 123, 124, 125, 126, 127, 128, 129, 130, 131, 132, 133, 134, 135, 136, 137, 138, 139, 140, 141, 142, 143, 144, 145, 146, 147, 148, 149, 150, 151, 152, 153, 154, 155, 156, 157, 158, 159] : List Nat), mCw y := List.forall_mem_cons.mpr ⟨mc_120, List.forall_mem_cons.mpr ⟨mc_121, List.forall_mem_cons.mpr ⟨mc_122, List.forall_mem_cons.mpr ⟨mc_123, List.forall_mem_cons.mpr ⟨mc_124, List.forall_mem_cons.mpr ⟨mc_125, List.forall_mem_cons.mpr ⟨mc_126, List.forall_mem_cons.mpr ⟨mc_127, List.forall_mem_cons.mpr ⟨mc_128, List.forall_mem_cons.mpr ⟨mc_129, List.forall_mem_cons.mpr ⟨mc_130, List.forall_mem_cons.mpr ⟨mc_131, List.forall_mem_cons.mpr ⟨mc_132, List.forall_mem_cons.mpr ⟨mc_133, List.forall_mem_cons.mpr ⟨mc_134, List.forall_mem_cons.mpr ⟨mc_135, List.forall_mem_cons.mpr ⟨mc_136, List.forall_mem_cons.mpr ⟨mc_137, List.forall_mem_cons.mpr ⟨mc_138, List.forall_mem_cons.mpr ⟨mc_139, List.forall_mem_cons.mpr ⟨mc_140, List.forall_mem_cons.mpr ⟨mc_141, List.forall_mem_cons.mpr ⟨mc_142, List.forall_mem_cons.mpr ⟨mc_143, List.forall_mem_cons.mpr ⟨mc_144, List.forall_mem_cons.mpr ⟨mc_145, List.forall_mem_cons.mpr ⟨mc_146, List.forall_mem_cons.mpr ⟨mc_147, List.forall_mem_cons.mpr ⟨mc_148, List.forall_mem_cons.mpr ⟨mc_149, List.forall_mem_cons.mpr ⟨mc_150, List.forall_mem_cons.mpr ⟨mc_151, List.forall_mem_cons.mpr ⟨mc_152, List.forall_mem_cons.mpr ⟨mc_153, List.forall_mem_cons.mpr ⟨mc_154, List.forall_mem_cons.mpr ⟨mc_155, List.forall_mem_cons.mpr ⟨mc_156, List.forall_mem_cons.mpr ⟨mc_157, List.forall_mem_cons.mpr ⟨mc_158, List.forall_mem_cons.mpr ⟨mc_159, fun _ h => absurd h List.not_mem_nil⟩⟩⟩⟩⟩⟩⟩⟩⟩⟩⟩⟩⟩⟩⟩⟩⟩⟩⟩⟩⟩⟩⟩⟩⟩⟩⟩⟩⟩⟩⟩⟩⟩⟩⟩⟩⟩⟩⟩⟩
set_option maxRecDepth 10000 in
theorem mcl_4 : ∀ y ∈ ([160, 161, 162, 163, 164, 165, 166, 167, 168, 169, 170, 171, 172, 173, 174, 175, 176, 177, 178, 179, 180, 181, 182, 183, 184, 185, 186, 187, 188, 189, 190, 191, 192, 193, 194, 195, 196, 197, 198, 199, 200, 201, 202, 203, 204, 205, 206, 207, 208, 209, 210, 211, 212] : List Nat), mCw y := List.forall_mem_cons.mpr ⟨mc_160, List.forall_mem_cons.mpr ⟨mc_161, List.forall_mem_cons.mpr ⟨mc_162, List.forall_mem_cons.mpr ⟨mc_163, List.forall_mem_cons.mpr ⟨mc_164, List.forall_mem_cons.mpr ⟨mc_165, List.forall_mem_cons.mpr ⟨mc_166, List.forall_mem_cons.mpr ⟨mc_167, List.forall_mem_cons.mpr ⟨mc_168, List.forall_mem_cons.mpr ⟨mc_169, List.forall_mem_cons.mpr ⟨mc_170, List.forall_mem_cons.mpr ⟨mc_171, List.forall_mem_cons.mpr ⟨mc_172, List.forall_mem_cons.mpr ⟨mc_173, List.forall_mem_cons.mpr ⟨mc_174, List.forall_mem_cons.mpr ⟨mc_175, List.forall_mem_cons.mpr ⟨mc_176, List.forall_mem_cons.mpr ⟨mc_177, List.forall_mem_cons.mpr ⟨mc_178, List.forall_mem_cons.mpr ⟨mc_179, List.forall_mem_cons.mpr ⟨mc_180, List.forall_mem_cons.mpr ⟨mc_181, List.forall_mem_cons.mpr ⟨mc_182, List.forall_mem_cons.mpr ⟨mc_183, List.forall_mem_cons.mpr ⟨mc_184, List.forall_mem_cons.mpr ⟨mc_185, List.forall_mem_cons.mpr ⟨mc_186, List.forall_mem_cons.mpr ⟨mc_187, List.forall_mem_cons.mpr ⟨mc_188, List.forall_mem_cons.mpr ⟨mc_189, List.forall_mem_cons.mpr ⟨mc_190, List.forall_mem_cons.mpr ⟨mc_191, List.forall_mem_cons.mpr ⟨mc_192, List.forall_mem_cons.mpr ⟨mc_193, List.forall_mem_cons.mpr ⟨mc_194, List.forall_mem_cons.mpr ⟨mc_195, List.forall_mem_cons.mpr ⟨mc_196, List.forall_mem_cons.mpr ⟨mc_197, List.forall_mem_cons.mpr ⟨mc_198, List.forall_mem_cons.mpr ⟨mc_199, List.forall_mem_cons.mpr ⟨mc_200, List.forall_mem_cons.mpr ⟨mc_201, List.forall_mem_cons.mpr ⟨mc_202, List.forall_mem_cons.mpr ⟨mc_203, List.forall_mem_cons.mpr ⟨mc_204, List.forall_mem_cons.mpr ⟨mc_205, List.forall_mem_cons.mpr ⟨mc_206, List.forall_mem_cons.mpr ⟨mc_207, List.forall_mem_cons.mpr ⟨mc_208, List.forall_mem_cons.mpr ⟨mc_209, List.forall_mem_cons.mpr ⟨mc_210, List.forall_mem_cons.mpr ⟨mc_211, List.forall_mem_cons.mpr ⟨mc_212, fun _ h => absurd h List.not_mem_nil⟩⟩⟩⟩⟩⟩⟩⟩⟩⟩⟩⟩⟩⟩⟩⟩⟩⟩⟩⟩⟩⟩⟩⟩⟩⟩⟩⟩⟩⟩⟩⟩⟩⟩⟩⟩⟩⟩⟩⟩⟩⟩⟩⟩⟩⟩⟩⟩⟩⟩⟩⟩⟩
set_option maxRecDepth 10000 in
theorem m_code {y : Nat} (h : y < 213) : Cond.code (mNm y) (mCd y) (mL y) (mRt y) ∈ lw_tbl := by
  rcases (show y < 40 ∨ (40 ≤ y ∧ y < 80) ∨ (80 ≤ y ∧ y < 120) ∨ (120 ≤ y ∧ y < 160) ∨ (160 ≤ y ∧ y < 213) by omega) with q | q | q | q | q
  · refine mcl_0 y ?_
    rw [show ([0, 1, 2, 3, 4, 5, 6, 7, 8, 9, 10, 11, 12, 13, 14, 15, 16, 17, 18, 19, 20, 21, 22, 23, 24, 25, 26, 27, 28, 29, 30, 31, 32, 33, 34, 35, 36, 37, 38, 39] : List Nat) = List.range' 0 40 by decide +kernel]
    exact List.mem_range'_1.mpr ⟨by omega, by omega⟩
  · refine mcl_1 y ?_
    rw [show ([40, 41, 42, 43, 44, 45, 46, 47, 48, 49, 50, 51, 52, 53, 54, 55, 56, 57, 58, 59, 60, 61, 62, 63, 64, 65, 66, 67, 68, 69, 70, 71, 72, 73, 74, 75, 76, 77, 78, 79] : List Nat) = List.range' 40 40 by decide +kernel]
    exact List.mem_range'_1.mpr ⟨by omega, by omega⟩
  · refine mcl_2 y ?_
    rw [show ([80, 81, 82, 83, 84, 85, 86, 87, 88, 89, 90, 91, 92, 93, 94, 95, 96, 97, 98, 99, 100, 101, 102, 103, 104, 105, 106, 107, 108, 109, 110, 111, 112, 113, 114, 115, 116, 117, 118, 119] : List Nat) = List.range' 80 40 by decide +kernel]
    exact List.mem_range'_1.mpr ⟨by omega, by omega⟩
  · refine mcl_3 y ?_
    rw [show ([120, 121, 122, 123, 124, 125, 126, 127, 128, 129, 130, 131, 132, 133, 134, 135, 136, 137, 138, 139, 140, 141, 142, 143, 144, 145, 146, 147, 148, 149, 150, 151, 152, 153, 154, 155, 156, 157, 158, 159] : List Nat) = List.range' 120 40 by decide +kernel]
    exact List.mem_range'_1.mpr ⟨by omega, by omega⟩
  · refine mcl_4 y ?_
    rw [show ([160, 161, 162, 163, 164, 165, 166, 167, 168, 169, 170, 171, 172, 173, 174, 175, 176, 177, 178, 179, 180, 181, 182, 183, 184, 185, 186, 187, 188, 189, 190, 191, 192, 193, 194, 195, 196, 197, 198, 199, 200, 201, 202, 203, 204, 205, 206, 207, 208, 209, 210, 211, 212] : List Nat) = List.range' 160 53 by decide +kernel]
    exact List.mem_range'_1.mpr ⟨by omega, by omega⟩
theorem cst_ok : ∀ q ∈ cstT, Cond.constant (cN q.1) q.2.1 (Int32.ofInt q.2.2) ∈ lw_tbl := by decide +kernel
theorem cstL_ok : Cond.constantLong (cN 12) 18 4294967295 ∈ lw_tbl := by decide +kernel
/-! the picture -/
def cv (ad : Nat → Int → Nat) (v : AV) : Value := match v with
  | .inl a => .int (Int32.ofInt a)
  | .inr (.inl x) => .long x
  | .inr (.inr (.inl q)) => va_rf (q.map fun q => ad q.1 q.2)
  | .inr (.inr (.inr _)) => .null
/-- what a slot of an object holds -/
def slv (σ : aM) (t : Nat) (i : Int) (k : Nat) : AV := match sK (fC t) k with
  | 2 => aQ (cref t i k)
  | _ => aI (gI σ t i (k : Int))
def cellOf (ad : Nat → Int → Nat) (cy : Nat → ClassId) (σ : aM) (t : Nat) (i : Int) : va_E := match fT t with
  | 0 => .inl (cy 0, fL t, .inl (fun j => Int32.ofInt (gI σ t i (j : Int))))
  | 1 => .inl (cy 1, fL t, .inr (.inl (fun j => gL σ t i (j : Int))))
  | 2 => .inl (cy 2, fL t, .inl (fun j => Int32.ofInt (gI σ t i (j : Int))))
  | 3 => .inl (cy 3, fL t, .inr (.inr (.inr (.inr (fun j => (aref σ t i (j : Int)).map (fun q => ad q.1 q.2))))))
  | 4 => .inl (cy 4, fL t, .inr (.inr (.inr (.inr (fun j => (aref σ t i (j : Int)).map (fun q => ad q.1 q.2))))))
  | 5 => .inl (cy 4, fL t, .inr (.inr (.inr (.inr (fun j => (aref σ t i (j : Int)).map (fun q => ad q.1 q.2))))))
  | _ => .inr (fC t, (List.range (cS (fC t))).map (fun k => cv ad (slv σ t i k)))
def allTI : List (Nat × Nat) := (List.range 34).flatMap fun t => (List.range (fN t)).map fun i => (t, i)
def off (t : Nat) : Nat := ((List.range t).map fN).sum
theorem pos_all : (List.range 34).all (fun t => (List.range (fN t)).all (fun i => decide (allTI[off t + i]? = some (t, i)))) = true := by decide +kernel
theorem pos_inv0 : (List.range allTI.length).all (fun k => match allTI[k]? with | some q => decide (k = off q.1 + q.2 ∧ q.1 < 34 ∧ q.2 < fN q.1) | none => false) = true := by decide +kernel
theorem pos_at {t i : Nat} (ht : t < 34) (hi : i < fN t) : allTI[off t + i]? = some (t, i) := by
  have h := List.all_eq_true.mp pos_all t (List.mem_range.mpr ht)
  have h := List.all_eq_true.mp h i (List.mem_range.mpr hi)
  exact of_decide_eq_true h
theorem pos_inv {k : Nat} {q : Nat × Nat} (h : allTI[k]? = some q) : k = off q.1 + q.2 ∧ q.1 < 34 ∧ q.2 < fN q.1 := by
  have hk : k < allTI.length := (List.getElem?_eq_some_iff.mp h).1
  have h2 := List.all_eq_true.mp pos_inv0 k (List.mem_range.mpr hk)
  rw [h] at h2
  exact of_decide_eq_true h2
def WS (ad : Nat → Int → Nat) (cy : Nat → ClassId) (σ : aM) : va_W := allTI.map (fun q => (ad q.1 (q.2 : Int), cellOf ad cy σ q.1 (q.2 : Int)))
/-- a reference that is one -/
def okR (t : Nat) (i : Int) : Prop := t < 34 ∧ 0 ≤ i ∧ i < (fN t : Int)
def ps (t : Nat) (i : Int) : Nat := off t + i.toNat
theorem WS_at {ad : Nat → Int → Nat} {cy : Nat → ClassId} {σ : aM} {t : Nat} {i : Int} (h : okR t i) : (WS ad cy σ)[ps t i]? = some (ad t i, cellOf ad cy σ t i) := by
  obtain ⟨h1, h2, h3⟩ := h
  unfold WS ps
  rw [List.getElem?_map, pos_at h1 (by omega : i.toNat < fN t)]
  have e : ((i.toNat : Nat) : Int) = i := Int.toNat_of_nonneg h2
  simp only [Option.map_some, e]
theorem WS_set {ad : Nat → Int → Nat} {cy : Nat → ClassId} {σ σ' : aM} {t : Nat} {i : Int} (h : okR t i) (hx : ∀ (t' : Nat) (i' : Int), okR t' i' → ¬ (t' = t ∧ i' = i) → cellOf ad cy σ' t' i' = cellOf ad cy σ t' i') : (WS ad cy σ).set (ps t i) (ad t i, cellOf ad cy σ' t i) = WS ad cy σ' := by
  apply List.ext_getElem?
  intro k
  by_cases hk : k = ps t i
  · subst hk
    rw [WS_at h, List.getElem?_set_self]
    exact (List.getElem?_eq_some_iff.mp (WS_at (ad := ad) (cy := cy) (σ := σ) h)).1
  · rw [List.getElem?_set_ne (Ne.symm hk)]
    unfold WS
    rw [List.getElem?_map, List.getElem?_map]
    cases hq : allTI[k]? with
    | none => rfl
    | some q =>
      obtain ⟨e, e3, e4⟩ := pos_inv hq
      simp only [Option.map_some]
      rw [hx q.1 (q.2 : Int) ⟨e3, by omega, by omega⟩ ?_]
      rintro ⟨rfl, e2⟩
      apply hk
      rw [e]
      unfold ps
      rw [← e2]
      rfl
/-- the addresses are apart, and may be written -/
def Apart (A : Nat → Prop) (ad : Nat → Int → Nat) : Prop := (∀ t i t' i', okR t i → okR t' i' → ad t i = ad t' i' → t = t' ∧ i = i') ∧ ∀ t i, okR t i → A (ad t i)
theorem WS_D {A : Nat → Prop} {ad : Nat → Int → Nat} {cy : Nat → ClassId} {σ : aM} (h : Apart A ad) : va_D A (WS ad cy σ) := by
  have key : ∀ (k : Nat) (p : Nat × va_E), (WS ad cy σ)[k]? = some p → ∃ (t i : Nat), k = off t + i ∧ okR t (i : Int) ∧ p.1 = ad t (i : Int) := by
    intro k p hp
    unfold WS at hp
    rw [List.getElem?_map] at hp
    cases hq : allTI[k]? with
    | none => rw [hq] at hp; cases hp
    | some q =>
      rw [hq] at hp
      simp only [Option.map_some, Option.some.injEq] at hp
      obtain ⟨e1, e2, e3⟩ := pos_inv hq
      exact ⟨q.1, q.2, e1, ⟨e2, by omega, by omega⟩, by rw [← hp]⟩
  refine ⟨fun a b p q hp hq hpq => ?_, fun k q hq => ?_⟩
  · obtain ⟨t, i, e1, o1, f1⟩ := key a p hp
    obtain ⟨t', i', e2, o2, f2⟩ := key b q hq
    rw [f1, f2] at hpq
    obtain ⟨rfl, e3⟩ := h.1 _ _ _ _ o1 o2 hpq
    have : i = i' := by omega
    subst this
    omega
  · obtain ⟨t, i, -, o1, f1⟩ := key k q hq
    rw [f1]
    exact h.2 _ _ o1
theorem gI_uI (σ : aM) (t : Nat) (i j v : Int) (t' : Nat) (i' j' : Int) : gI (uI σ t i j v) t' i' j' = if t' = t ∧ i' = i ∧ j' = j then v else gI σ t' i' j' := rfl
theorem gL_uI (σ : aM) (t : Nat) (i j v : Int) (t' : Nat) (i' j' : Int) : gL (uI σ t i j v) t' i' j' = gL σ t' i' j' := rfl
theorem gR_uI (σ : aM) (t : Nat) (i j v : Int) (j' : Int) : gR (uI σ t i j v) j' = gR σ j' := rfl
theorem gI_uL (σ : aM) (t : Nat) (i j : Int) (v : Int64) (t' : Nat) (i' j' : Int) : gI (uL σ t i j v) t' i' j' = gI σ t' i' j' := rfl
theorem gL_uL (σ : aM) (t : Nat) (i j : Int) (v : Int64) (t' : Nat) (i' j' : Int) : gL (uL σ t i j v) t' i' j' = if t' = t ∧ i' = i ∧ j' = j then v else gL σ t' i' j' := rfl
theorem gR_uL (σ : aM) (t : Nat) (i j : Int) (v : Int64) (j' : Int) : gR (uL σ t i j v) j' = gR σ j' := rfl
theorem gI_uR (σ : aM) (j : Int) (q : Option (Nat × Int)) (t' : Nat) (i' j' : Int) : gI (uR σ j q) t' i' j' = gI σ t' i' j' := rfl
theorem gL_uR (σ : aM) (j : Int) (q : Option (Nat × Int)) (t' : Nat) (i' j' : Int) : gL (uR σ j q) t' i' j' = gL σ t' i' j' := rfl
theorem gR_uR (σ : aM) (j : Int) (q : Option (Nat × Int)) (j' : Int) : gR (uR σ j q) j' = if j' = j then q else gR σ j' := rfl
theorem gI_kI (σ : aM) (t : Nat) (i a : Int) (t2 : Nat) (i2 b n : Int) (t' : Nat) (i' j' : Int) : gI (kI σ t i a t2 i2 b n) t' i' j' = if t' = t2 ∧ i' = i2 ∧ b ≤ j' ∧ j' < b + n then gI σ t i (j' - b + a) else gI σ t' i' j' := rfl
theorem gL_kI (σ : aM) (t : Nat) (i a : Int) (t2 : Nat) (i2 b n : Int) (t' : Nat) (i' j' : Int) : gL (kI σ t i a t2 i2 b n) t' i' j' = gL σ t' i' j' := rfl
theorem gR_kI (σ : aM) (t : Nat) (i a : Int) (t2 : Nat) (i2 b n : Int) (j' : Int) : gR (kI σ t i a t2 i2 b n) j' = gR σ j' := rfl
theorem gI_kL (σ : aM) (t : Nat) (i a : Int) (t2 : Nat) (i2 b n : Int) (t' : Nat) (i' j' : Int) : gI (kL σ t i a t2 i2 b n) t' i' j' = gI σ t' i' j' := rfl
theorem gL_kL (σ : aM) (t : Nat) (i a : Int) (t2 : Nat) (i2 b n : Int) (t' : Nat) (i' j' : Int) : gL (kL σ t i a t2 i2 b n) t' i' j' = if t' = t2 ∧ i' = i2 ∧ b ≤ j' ∧ j' < b + n then gL σ t i (j' - b + a) else gL σ t' i' j' := rfl
theorem gR_kL (σ : aM) (t : Nat) (i a : Int) (t2 : Nat) (i2 b n : Int) (j' : Int) : gR (kL σ t i a t2 i2 b n) j' = gR σ j' := rfl
/-- a cell depends on its own places alone -/
theorem fT5 {t : Nat} (h : fT t = 5) : t = 17 := by
  by_cases ht : t < 35
  · have k : (List.range 35).all (fun t => decide (fT t = 5 → t = 17)) = true := by decide +kernel
    exact of_decide_eq_true (List.all_eq_true.mp k t (List.mem_range.mpr ht)) h
  · unfold fT fam at h
    rw [getD_out] at h
    · cases h
    · exact Nat.le_trans (Nat.le_of_ble_eq_true rfl) (Nat.not_lt.mp ht)
theorem cellOf_eq {ad : Nat → Int → Nat} {cy : Nat → ClassId} {σ σ' : aM} {t : Nat} {i : Int} (h1 : ∀ j, gI σ' t i j = gI σ t i j) (h2 : ∀ j, gL σ' t i j = gL σ t i j) (h3 : t = 17 → ∀ j, gR σ' j = gR σ j) : cellOf ad cy σ' t i = cellOf ad cy σ t i := by
  have e1 : (fun j : Nat => Int32.ofInt (gI σ' t i (j : Int))) = fun j : Nat => Int32.ofInt (gI σ t i (j : Int)) := funext fun j => by rw [h1]
  have e2 : (fun j : Nat => gL σ' t i (j : Int)) = fun j : Nat => gL σ t i (j : Int) := funext fun j => by rw [h2]
  have e3 : (fT t = 3 ∨ fT t = 4 ∨ fT t = 5) → (fun j : Nat => (aref σ' t i (j : Int)).map (fun q => ad q.1 q.2)) = fun j : Nat => (aref σ t i (j : Int)).map (fun q => ad q.1 q.2) := by
    intro hf
    funext j
    unfold aref
    rcases hf with h | h | h
    · rw [h]; rfl
    · rw [h]; rfl
    · rw [h]
      show Option.map _ (gR σ' _) = Option.map _ (gR σ _)
      rw [h3 (fT5 h)]
  have e4 : ∀ k, slv σ' t i k = slv σ t i k := by
    intro k
    unfold slv
    rw [h1]
  unfold cellOf
  split
  · rw [e1]
  · rw [e2]
  · rw [e1]
  · rename_i h
    rw [e3 (Or.inl h)]
  · rename_i h
    rw [e3 (Or.inr (Or.inl h))]
  · rename_i h
    rw [e3 (Or.inr (Or.inr h))]
  · simp only [e4]
theorem cell_obj {ad : Nat → Int → Nat} {cy : Nat → ClassId} {σ : aM} {t : Nat} {i : Int} (h : fC t < 10) : cellOf ad cy σ t i = .inr (fC t, (List.range (cS (fC t))).map (fun k => cv ad (slv σ t i k))) := by
  have hT : fT t = 8 := by
    by_cases ht : t < 35
    · have k : (List.range 35).all (fun t => decide (fC t < 10 → fT t = 8)) = true := by decide +kernel
      exact of_decide_eq_true (List.all_eq_true.mp k t (List.mem_range.mpr ht)) h
    · unfold fC fam at h
      rw [getD_out] at h
      · exact absurd h (by decide)
      · exact Nat.le_trans (Nat.le_of_ble_eq_true rfl) (Nat.not_lt.mp ht)
  unfold cellOf
  rw [hT]
  rfl
theorem cell_int {ad : Nat → Int → Nat} {cy : Nat → ClassId} {σ : aM} {t : Nat} {i : Int} (h : fT t = 0) : cellOf ad cy σ t i = .inl (cy 0, fL t, .inl (fun j => Int32.ofInt (gI σ t i (j : Int)))) := by
  unfold cellOf
  rw [h]
  rfl
theorem cell_long {ad : Nat → Int → Nat} {cy : Nat → ClassId} {σ : aM} {t : Nat} {i : Int} (h : fT t = 1) : cellOf ad cy σ t i = .inl (cy 1, fL t, .inr (.inl (fun j => gL σ t i (j : Int)))) := by
  unfold cellOf
  rw [h]
  rfl
theorem cell_bool {ad : Nat → Int → Nat} {cy : Nat → ClassId} {σ : aM} {t : Nat} {i : Int} (h : fT t = 2) : cellOf ad cy σ t i = .inl (cy 2, fL t, .inl (fun j => Int32.ofInt (gI σ t i (j : Int)))) := by
  unfold cellOf
  rw [h]
  rfl
theorem cell_ref {ad : Nat → Int → Nat} {cy : Nat → ClassId} {σ : aM} {t : Nat} {i : Int} (h : 3 ≤ fT t ∧ fT t ≤ 5) : cellOf ad cy σ t i = .inl (cy (if fT t = 3 then 3 else 4), fL t, .inr (.inr (.inr (.inr (fun j => (aref σ t i (j : Int)).map (fun q => ad q.1 q.2)))))) := by
  unfold cellOf
  rcases (show fT t = 3 ∨ fT t = 4 ∨ fT t = 5 by omega) with h | h | h <;> rw [h] <;> rfl
end
section
/-! a step keeps its state's values what they may be -/
def okI (a : Int) : Prop := -2147483648 ≤ a ∧ a < 2147483648
def okQ (q : Option (Nat × Int)) : Prop := ∀ t i, q = some (t, i) → okR t i ∨ (t = 34 ∧ i = 0)
def okv (v : AV) : Prop := match v with
  | .inl a => okI a
  | .inr (.inl _) => True
  | .inr (.inr (.inl q)) => okQ q
  | .inr (.inr (.inr _)) => True
def okA (L : List AV) : Prop := ∀ v ∈ L, okv v
def okM (σ : aM) : Prop := (∀ t i j, okI (gI σ t i j)) ∧ ∀ j q, gR σ j = some q → q.1 = 8 ∧ okR 8 q.2
def okS (σ : aM) (q : aS) : Prop := match q with
  | .inl (_, L, st, σ') => okA L ∧ okA st ∧ okM σ' ∧ ∀ j, gI σ' 34 0 j = gI σ 34 0 j
  | .inr (.inl (v, σ')) => (∀ w, v = some w → okv w) ∧ okM σ' ∧ ∀ j, gI σ' 34 0 j = gI σ 34 0 j
  | .inr (.inr (y', as, (_, L, r, σ'))) => y' < 213 ∧ okA as ∧ okA L ∧ okA r ∧ σ' = σ
theorem ok_i32 (x : Int32) : okI x.toInt := ⟨Int32.le_toInt x, Int32.toInt_lt x⟩
theorem ok_wr (a : Int) : okI (wr a) := ok_i32 _
theorem okA_nil : okA [] := fun v h => by cases h
theorem okA_cons {v : AV} {L : List AV} (h1 : okv v) (h2 : okA L) : okA (v :: L) := List.forall_mem_cons.mpr ⟨h1, h2⟩
theorem okA_hd {v : AV} {L : List AV} (h : okA (v :: L)) : okv v := h v List.mem_cons_self
theorem okA_tl {v : AV} {L : List AV} (h : okA (v :: L)) : okA L := fun w hw => h w (List.mem_cons_of_mem _ hw)
theorem okA_at {L : List AV} (h : okA L) {k : Nat} {v : AV} (hk : L[k]? = some v) : okv v := h v (List.mem_of_getElem? hk)
theorem okA_set {L : List AV} (h : okA L) (k : Nat) {v : AV} (hv : okv v) : okA (L.set k v) := fun w hw => (List.mem_or_eq_of_mem_set hw).elim (h w) (fun e => e ▸ hv)
theorem okA_drop {L : List AV} (h : okA L) (n : Nat) : okA (L.drop n) := fun w hw => h w (List.mem_of_mem_drop hw)
theorem okA_rt {L : List AV} (h : okA L) (n : Nat) : okA (L.take n).reverse := fun w hw => h w (List.mem_of_mem_take (List.mem_reverse.mp hw))
theorem okI_inr {n : Int} (h : inr32 n = true) : okI n := by
  unfold inr32 at h
  rw [Bool.and_eq_true] at h
  exact ⟨of_decide_eq_true h.1, of_decide_eq_true h.2⟩
theorem okM_uI {σ : aM} (h : okM σ) (t : Nat) (i j : Int) {v : Int} (hv : okI v) : okM (uI σ t i j v) := by
  refine ⟨fun t' i' j' => ?_, h.2⟩
  rw [gI_uI]
  split
  · exact hv
  · exact h.1 _ _ _
theorem okM_uL {σ : aM} (h : okM σ) (t : Nat) (i j : Int) (v : Int64) : okM (uL σ t i j v) := h
theorem okM_uR {σ : aM} (h : okM σ) (j : Int) {i : Int} (hv : okR 8 i) : okM (uR σ j (some (8, i))) := by
  refine ⟨h.1, fun j' q hq => ?_⟩
  rw [gR_uR] at hq
  split at hq
  · cases hq
    exact ⟨rfl, hv⟩
  · exact h.2 _ _ hq
theorem okM_kI {σ : aM} (h : okM σ) (t : Nat) (i a : Int) (t2 : Nat) (i2 b n : Int) : okM (kI σ t i a t2 i2 b n) := by
  refine ⟨fun t' i' j' => ?_, h.2⟩
  rw [gI_kI]
  split
  · exact h.1 _ _ _
  · exact h.1 _ _ _
theorem okM_kL {σ : aM} (h : okM σ) (t : Nat) (i a : Int) (t2 : Nat) (i2 b n : Int) : okM (kL σ t i a t2 i2 b n) := h
/-- a cell of class c under 10 is one of the heap's -/
theorem okR_of {t : Nat} {i : Int} (h : okv (aR t i)) (h2 : t ≠ 34) : okR t i := by
  rcases h t i rfl with h | h
  · exact h
  · exact absurd h.1 h2
theorem ok_aR {t : Nat} {i : Int} (h : okR t i) : okv (aR t i) := by
  intro t' i' e
  cases e
  exact Or.inl h
theorem ok_cref {t : Nat} {i : Int} (h : okR t i) (k : Nat) (hk : k < cS (fC t)) (hc : sK (fC t) k = 2) : okQ (cref t i k) := by
  obtain ⟨h1, h2, h3⟩ := h
  have key : (List.range 34).all (fun t => (List.range (cS (fC t))).all (fun k => if sK (fC t) k = 2 then (match (crT.getD t []).getD k (0, 0, 0) with | (t', c, 0) => decide (t' < 34 ∧ c < fN t') | (t', _, _ + 1) => decide (t' < 34 ∧ fN t ≤ fN t')) else true)) = true := by decide +kernel
  have key := List.all_eq_true.mp (List.all_eq_true.mp key t (List.mem_range.mpr h1)) k (List.mem_range.mpr hk)
  rw [if_pos hc] at key
  unfold cref
  intro t2 i2 e
  left
  split at e
  · rename_i t' c hq
    rw [hq] at key
    have key := of_decide_eq_true key
    cases e
    exact ⟨key.1, by omega, by omega⟩
  · rename_i t' c n hq
    rw [hq] at key
    have key := of_decide_eq_true key
    cases e
    exact ⟨key.1, h2, by omega⟩
theorem ok_aref {σ : aM} (hM : okM σ) {t : Nat} {i j : Int} (h : okR t i) (hT : 3 ≤ fT t ∧ fT t ≤ 5) (h0 : 0 ≤ j) (h1 : j < (fL t : Int)) : okQ (aref σ t i j) := by
  obtain ⟨a1, a2, a3⟩ := h
  have key : (List.range 34).all (fun t => decide ((fT t = 3 → fL t = 8) ∧ (fT t = 4 → fL t = 60 ∧ fN t = 2))) = true := by decide +kernel
  have key := of_decide_eq_true (List.all_eq_true.mp key t (List.mem_range.mpr a1))
  intro t2 i2 e
  left
  unfold aref at e
  rcases (show fT t = 3 ∨ fT t = 4 ∨ fT t = 5 by omega) with q | q | q
  · rw [q] at e
    cases e
    have := key.1 q
    exact ⟨by omega, h0, by rw [show fN 2 = 8 from rfl]; omega⟩
  · rw [q] at e
    cases e
    have := key.2 q
    exact ⟨by omega, by omega, by rw [show fN 8 = 121 from rfl]; omega⟩
  · rw [q] at e
    obtain ⟨e1, e2⟩ := hM.2 _ _ e
    cases e1
    exact e2
section OKS
variable {y pc : Nat} {L st : List AV} {σ : aM} {q : aS}
theorem ok_aload_n {k : Fin 4} (hL : okA L) (hst : okA st) (hM : okM σ) (h : stp y (.aload_n k) pc L st σ = some q) : okS σ q := by
  simp only [stp] at h
  split at h
  · rename_i v hv
    cases h
    exact ⟨hL, okA_cons (okA_at hL hv) hst, hM, fun _ => rfl⟩
  · cases h
theorem ok_aload {k : Nat} (hL : okA L) (hst : okA st) (hM : okM σ) (h : stp y (.aload k) pc L st σ = some q) : okS σ q := by
  simp only [stp] at h
  split at h
  · rename_i v hv
    cases h
    exact ⟨hL, okA_cons (okA_at hL hv) hst, hM, fun _ => rfl⟩
  · cases h
theorem ok_iload_n {k : Fin 4} (hL : okA L) (hst : okA st) (hM : okM σ) (h : stp y (.iload_n k) pc L st σ = some q) : okS σ q := by
  simp only [stp] at h
  split at h
  · rename_i v hv
    cases h
    exact ⟨hL, okA_cons (okA_at hL hv) hst, hM, fun _ => rfl⟩
  · cases h
theorem ok_iload {k : Nat} (hL : okA L) (hst : okA st) (hM : okM σ) (h : stp y (.iload k) pc L st σ = some q) : okS σ q := by
  simp only [stp] at h
  split at h
  · rename_i v hv
    cases h
    exact ⟨hL, okA_cons (okA_at hL hv) hst, hM, fun _ => rfl⟩
  · cases h
theorem ok_lload_n {k : Fin 4} (hL : okA L) (hst : okA st) (hM : okM σ) (h : stp y (.lload_n k) pc L st σ = some q) : okS σ q := by
  simp only [stp] at h
  split at h
  · rename_i v hv
    cases h
    exact ⟨hL, okA_cons (okA_at hL hv) hst, hM, fun _ => rfl⟩
  · cases h
theorem ok_istore_n {k : Fin 4} (hL : okA L) (hst : okA st) (hM : okM σ) (h : stp y (.istore_n k) pc L st σ = some q) : okS σ q := by
  simp only [stp] at h
  split at h
  · unfold stS at h
    split at h
    · cases h
      exact ⟨okA_set hL _ (okA_hd hst), okA_tl hst, hM, fun _ => rfl⟩
    · cases h
  · cases h
theorem ok_istore {k : Nat} (hL : okA L) (hst : okA st) (hM : okM σ) (h : stp y (.istore k) pc L st σ = some q) : okS σ q := by
  simp only [stp] at h
  split at h
  · unfold stS at h
    split at h
    · cases h
      exact ⟨okA_set hL _ (okA_hd hst), okA_tl hst, hM, fun _ => rfl⟩
    · cases h
  · cases h
theorem ok_astore_n {k : Fin 4} (hL : okA L) (hst : okA st) (hM : okM σ) (h : stp y (.astore_n k) pc L st σ = some q) : okS σ q := by
  simp only [stp] at h
  split at h
  · unfold stS at h
    split at h
    · cases h
      exact ⟨okA_set hL _ (okA_hd hst), okA_tl hst, hM, fun _ => rfl⟩
    · cases h
  · cases h
theorem ok_astore {k : Nat} (hL : okA L) (hst : okA st) (hM : okM σ) (h : stp y (.astore k) pc L st σ = some q) : okS σ q := by
  simp only [stp] at h
  split at h
  · unfold stS at h
    split at h
    · cases h
      exact ⟨okA_set hL _ (okA_hd hst), okA_tl hst, hM, fun _ => rfl⟩
    · cases h
  · cases h
theorem ok_iinc {k : Nat} {n : Int} (hL : okA L) (hst : okA st) (hM : okM σ) (h : stp y (.iinc k n) pc L st σ = some q) : okS σ q := by
  simp only [stp] at h
  split at h
  · unfold stS at h
    split at h
    · cases h
      exact ⟨okA_set hL _ (ok_wr _), hst, hM, fun _ => rfl⟩
    · cases h
  · cases h
theorem ok_aconst_null (hL : okA L) (hst : okA st) (hM : okM σ) (h : stp y (.aconst_null) pc L st σ = some q) : okS σ q := by
  simp only [stp] at h
  cases h
  exact ⟨hL, okA_cons (fun t i e => by cases e) hst, hM, fun _ => rfl⟩
theorem ok_iconst {n : Int} (hL : okA L) (hst : okA st) (hM : okM σ) (h : stp y (.iconst n) pc L st σ = some q) : okS σ q := by
  simp only [stp] at h
  split at h
  · rename_i hn
    cases h
    exact ⟨hL, okA_cons (okI_inr hn) hst, hM, fun _ => rfl⟩
  · cases h
theorem ok_bipush {n : Int} (hL : okA L) (hst : okA st) (hM : okM σ) (h : stp y (.bipush n) pc L st σ = some q) : okS σ q := by
  simp only [stp] at h
  split at h
  · rename_i hn
    cases h
    exact ⟨hL, okA_cons (show okI n from ⟨by omega, by omega⟩) hst, hM, fun _ => rfl⟩
  · cases h
theorem ok_sipush {n : Int} (hL : okA L) (hst : okA st) (hM : okM σ) (h : stp y (.sipush n) pc L st σ = some q) : okS σ q := by
  simp only [stp] at h
  split at h
  · rename_i hn
    cases h
    exact ⟨hL, okA_cons (show okI n from ⟨by omega, by omega⟩) hst, hM, fun _ => rfl⟩
  · cases h
theorem ok_lconst {n : Fin 2} (hL : okA L) (hst : okA st) (hM : okM σ) (h : stp y (.lconst n) pc L st σ = some q) : okS σ q := by
  simp only [stp] at h
  cases h
  exact ⟨hL, okA_cons trivial hst, hM, fun _ => rfl⟩
theorem ok_ldc {x : Nat} (hL : okA L) (hst : okA st) (hM : okM σ) (h : stp y (.ldc x) pc L st σ = some q) : okS σ q := by
  simp only [stp] at h
  split at h
  · split at h
    · rename_i hn
      cases h
      exact ⟨hL, okA_cons (okI_inr hn) hst, hM, fun _ => rfl⟩
    · cases h
  · cases h
theorem ok_ldc_w {x : Nat} (hL : okA L) (hst : okA st) (hM : okM σ) (h : stp y (.ldc_w x) pc L st σ = some q) : okS σ q := by
  simp only [stp] at h
  split at h
  · split at h
    · rename_i hn
      cases h
      exact ⟨hL, okA_cons (okI_inr hn) hst, hM, fun _ => rfl⟩
    · cases h
  · cases h
theorem ok_ldc2_w {x : Nat} (hL : okA L) (hst : okA st) (hM : okM σ) (h : stp y (.ldc2_w x) pc L st σ = some q) : okS σ q := by
  simp only [stp] at h
  split at h
  · cases h
    exact ⟨hL, okA_cons trivial hst, hM, fun _ => rfl⟩
  · cases h
theorem ok_dup (hL : okA L) (hst : okA st) (hM : okM σ) (h : stp y (.dup) pc L st σ = some q) : okS σ q := by
  simp only [stp] at h
  split at h
  · split at h
    · cases h
      exact ⟨hL, okA_cons (okA_hd hst) hst, hM, fun _ => rfl⟩
    · cases h
  · cases h
theorem ok_dup2 (hL : okA L) (hst : okA st) (hM : okM σ) (h : stp y (.dup2) pc L st σ = some q) : okS σ q := by
  simp only [stp] at h
  split at h
  · split at h
    · cases h
      exact ⟨hL, okA_cons (okA_hd hst) (okA_cons (okA_hd (okA_tl hst)) hst), hM, fun _ => rfl⟩
    · cases h
  · cases h
theorem ok_pop (hL : okA L) (hst : okA st) (hM : okM σ) (h : stp y (.pop) pc L st σ = some q) : okS σ q := by
  simp only [stp] at h
  split at h
  · split at h
    · cases h
      exact ⟨hL, okA_tl hst, hM, fun _ => rfl⟩
    · cases h
  · cases h
theorem ok_iadd (hL : okA L) (hst : okA st) (hM : okM σ) (h : stp y (.iadd) pc L st σ = some q) : okS σ q := by
  simp only [stp] at h
  split at h
  · cases h
    exact ⟨hL, okA_cons (ok_i32 _) (okA_tl (okA_tl hst)), hM, fun _ => rfl⟩
  · cases h
theorem ok_isub (hL : okA L) (hst : okA st) (hM : okM σ) (h : stp y (.isub) pc L st σ = some q) : okS σ q := by
  simp only [stp] at h
  split at h
  · cases h
    exact ⟨hL, okA_cons (ok_i32 _) (okA_tl (okA_tl hst)), hM, fun _ => rfl⟩
  · cases h
theorem ok_imul (hL : okA L) (hst : okA st) (hM : okM σ) (h : stp y (.imul) pc L st σ = some q) : okS σ q := by
  simp only [stp] at h
  split at h
  · cases h
    exact ⟨hL, okA_cons (ok_i32 _) (okA_tl (okA_tl hst)), hM, fun _ => rfl⟩
  · cases h
theorem ok_iand (hL : okA L) (hst : okA st) (hM : okM σ) (h : stp y (.iand) pc L st σ = some q) : okS σ q := by
  simp only [stp] at h
  split at h
  · cases h
    exact ⟨hL, okA_cons (ok_i32 _) (okA_tl (okA_tl hst)), hM, fun _ => rfl⟩
  · cases h
theorem ok_iushr (hL : okA L) (hst : okA st) (hM : okM σ) (h : stp y (.iushr) pc L st σ = some q) : okS σ q := by
  simp only [stp] at h
  split at h
  · cases h
    exact ⟨hL, okA_cons (ok_i32 _) (okA_tl (okA_tl hst)), hM, fun _ => rfl⟩
  · cases h
theorem ok_idiv (hL : okA L) (hst : okA st) (hM : okM σ) (h : stp y (.idiv) pc L st σ = some q) : okS σ q := by
  simp only [stp] at h
  split at h
  · split at h
    · cases h
      exact ⟨hL, okA_cons (ok_i32 _) (okA_tl (okA_tl hst)), hM, fun _ => rfl⟩
    · cases h
  · cases h
theorem ok_irem (hL : okA L) (hst : okA st) (hM : okM σ) (h : stp y (.irem) pc L st σ = some q) : okS σ q := by
  simp only [stp] at h
  split at h
  · split at h
    · cases h
      exact ⟨hL, okA_cons (ok_i32 _) (okA_tl (okA_tl hst)), hM, fun _ => rfl⟩
    · cases h
  · cases h
theorem ok_ineg (hL : okA L) (hst : okA st) (hM : okM σ) (h : stp y (.ineg) pc L st σ = some q) : okS σ q := by
  simp only [stp] at h
  split at h
  · cases h
    exact ⟨hL, okA_cons (ok_i32 _) (okA_tl hst), hM, fun _ => rfl⟩
  · cases h
theorem ok_i2b (hL : okA L) (hst : okA st) (hM : okM σ) (h : stp y (.i2b) pc L st σ = some q) : okS σ q := by
  simp only [stp] at h
  split at h
  · cases h
    exact ⟨hL, okA_cons (ok_i32 _) (okA_tl hst), hM, fun _ => rfl⟩
  · cases h
theorem ok_i2s (hL : okA L) (hst : okA st) (hM : okM σ) (h : stp y (.i2s) pc L st σ = some q) : okS σ q := by
  simp only [stp] at h
  split at h
  · cases h
    exact ⟨hL, okA_cons (ok_i32 _) (okA_tl hst), hM, fun _ => rfl⟩
  · cases h
theorem ok_l2i (hL : okA L) (hst : okA st) (hM : okM σ) (h : stp y (.l2i) pc L st σ = some q) : okS σ q := by
  simp only [stp] at h
  split at h
  · cases h
    exact ⟨hL, okA_cons (ok_i32 _) (okA_tl hst), hM, fun _ => rfl⟩
  · cases h
theorem ok_i2l (hL : okA L) (hst : okA st) (hM : okM σ) (h : stp y (.i2l) pc L st σ = some q) : okS σ q := by
  simp only [stp] at h
  split at h
  · cases h
    exact ⟨hL, okA_cons trivial (okA_tl hst), hM, fun _ => rfl⟩
  · cases h
theorem ok_ladd (hL : okA L) (hst : okA st) (hM : okM σ) (h : stp y (.ladd) pc L st σ = some q) : okS σ q := by
  simp only [stp] at h
  split at h
  · cases h
    exact ⟨hL, okA_cons trivial (okA_tl (okA_tl hst)), hM, fun _ => rfl⟩
  · cases h
theorem ok_land (hL : okA L) (hst : okA st) (hM : okM σ) (h : stp y (.land) pc L st σ = some q) : okS σ q := by
  simp only [stp] at h
  split at h
  · cases h
    exact ⟨hL, okA_cons trivial (okA_tl (okA_tl hst)), hM, fun _ => rfl⟩
  · cases h
theorem ok_lor (hL : okA L) (hst : okA st) (hM : okM σ) (h : stp y (.lor) pc L st σ = some q) : okS σ q := by
  simp only [stp] at h
  split at h
  · cases h
    exact ⟨hL, okA_cons trivial (okA_tl (okA_tl hst)), hM, fun _ => rfl⟩
  · cases h
theorem ok_lshl (hL : okA L) (hst : okA st) (hM : okM σ) (h : stp y (.lshl) pc L st σ = some q) : okS σ q := by
  simp only [stp] at h
  split at h
  · cases h
    exact ⟨hL, okA_cons trivial (okA_tl (okA_tl hst)), hM, fun _ => rfl⟩
  · cases h
theorem ok_lcmp (hL : okA L) (hst : okA st) (hM : okM σ) (h : stp y (.lcmp) pc L st σ = some q) : okS σ q := by
  simp only [stp] at h
  split at h
  · cases h
    exact ⟨hL, okA_cons (ok_i32 _) (okA_tl (okA_tl hst)), hM, fun _ => rfl⟩
  · cases h
theorem fC34 : ¬ fC 34 < 10 := by decide
theorem ne34 {t c k o x : Nat} (h : fC t = c) (hf : fld o x = some (c, k)) : t ≠ 34 := by
  rintro rfl
  have := (fld_ok hf).1
  rw [← h] at this
  exact fC34 this
theorem ok_getfield {x : Nat} (hL : okA L) (hst : okA st) (hM : okM σ) (h : stp y (.getfield x) pc L st σ = some q) : okS σ q := by
  simp only [stp] at h
  split at h
  · split at h
    · rename_i hf
      split at h
      · rename_i hc
        have hr := okR_of (okA_hd hst) (ne34 hc hf)
        have hk := (fld_ok hf).2.1
        subst hc
        split at h
        · cases h
          exact ⟨hL, okA_cons (hM.1 _ _ _) (okA_tl hst), hM, fun _ => rfl⟩
        · cases h
          exact ⟨hL, okA_cons (hM.1 _ _ _) (okA_tl hst), hM, fun _ => rfl⟩
        · rename_i h2
          cases h
          exact ⟨hL, okA_cons (ok_cref hr _ hk h2) (okA_tl hst), hM, fun _ => rfl⟩
        · cases h
          exact ⟨hL, okA_cons (hM.1 _ _ _) (okA_tl hst), hM, fun _ => rfl⟩
        · cases h
      · cases h
    · cases h
  · cases h
theorem sc_uI {σ : aM} {t : Nat} {i j v : Int} (h : t ≠ 34) (j' : Int) : gI (uI σ t i j v) 34 0 j' = gI σ 34 0 j' := by
  rw [gI_uI, if_neg (fun q => h q.1.symm)]
theorem sc_kI {σ : aM} {t : Nat} {i a : Int} {t2 : Nat} {i2 b n : Int} (h : t2 < 34) (j' : Int) : gI (kI σ t i a t2 i2 b n) 34 0 j' = gI σ 34 0 j' := by
  rw [gI_kI, if_neg (fun q => by omega)]
theorem ok_putfield {x : Nat} (hL : okA L) (hst : okA st) (hM : okM σ) (h : stp y (.putfield x) pc L st σ = some q) : okS σ q := by
  simp only [stp] at h
  split at h
  · split at h
    · rename_i v t i r c k hf
      split at h
      · rename_i hc
        split at h
        · cases h
          exact ⟨hL, okA_tl (okA_tl hst), okM_uI hM _ _ _ (okA_hd hst), sc_uI (ne34 hc hf)⟩
        · split at h
          · cases h
            exact ⟨hL, okA_tl (okA_tl hst), okM_uI hM _ _ _ (okA_hd hst), sc_uI (ne34 hc hf)⟩
          · cases h
        · cases h
      · cases h
    · cases h
  · cases h
theorem ok_arraylength (hL : okA L) (hst : okA st) (hM : okM σ) (h : stp y (.arraylength) pc L st σ = some q) : okS σ q := by
  simp only [stp] at h
  split at h
  · split at h
    · rename_i hc
      cases h
      exact ⟨hL, okA_cons (okI_inr hc.2) (okA_tl hst), hM, fun _ => rfl⟩
    · cases h
  · cases h
theorem ok_iaload (hL : okA L) (hst : okA st) (hM : okM σ) (h : stp y (.iaload) pc L st σ = some q) : okS σ q := by
  simp only [stp] at h
  split at h
  · unfold ldA at h
    split at h
    · cases h
      exact ⟨hL, okA_cons (hM.1 _ _ _) (okA_tl (okA_tl hst)), hM, fun _ => rfl⟩
    · cases h
  · cases h
theorem ok_baload (hL : okA L) (hst : okA st) (hM : okM σ) (h : stp y (.baload) pc L st σ = some q) : okS σ q := by
  simp only [stp] at h
  split at h
  · unfold ldA at h
    split at h
    · cases h
      exact ⟨hL, okA_cons (hM.1 _ _ _) (okA_tl (okA_tl hst)), hM, fun _ => rfl⟩
    · cases h
  · cases h
theorem ok_laload (hL : okA L) (hst : okA st) (hM : okM σ) (h : stp y (.laload) pc L st σ = some q) : okS σ q := by
  simp only [stp] at h
  split at h
  · unfold ldA at h
    split at h
    · cases h
      exact ⟨hL, okA_cons trivial (okA_tl (okA_tl hst)), hM, fun _ => rfl⟩
    · cases h
  · cases h
theorem ok_aaload (hL : okA L) (hst : okA st) (hM : okM σ) (h : stp y (.aaload) pc L st σ = some q) : okS σ q := by
  simp only [stp] at h
  split at h
  · split at h
    · rename_i a t i r hc
      cases h
      have ht : t ≠ 34 := by
        rintro rfl
        exact absurd hc.1 (by decide)
      have hl : aLen σ t = (fL t : Int) := aLen_n ht rfl
      have h3 := hc.2.2.2
      rw [hl] at h3
      exact ⟨hL, okA_cons (ok_aref hM (okR_of (okA_hd (okA_tl hst)) ht) ⟨hc.1, hc.2.1⟩ hc.2.2.1 h3) (okA_tl (okA_tl hst)), hM, fun _ => rfl⟩
    · cases h
  · cases h
theorem ok_iastore (hL : okA L) (hst : okA st) (hM : okM σ) (h : stp y (.iastore) pc L st σ = some q) : okS σ q := by
  simp only [stp] at h
  split at h
  · split at h
    · rename_i hc
      cases h
      exact ⟨hL, okA_tl (okA_tl (okA_tl hst)), okM_uI hM _ _ _ (okA_hd hst), sc_uI hc.2.1⟩
    · cases h
  · cases h
theorem ok_bastore (hL : okA L) (hst : okA st) (hM : okM σ) (h : stp y (.bastore) pc L st σ = some q) : okS σ q := by
  simp only [stp] at h
  split at h
  · split at h
    · rename_i v a t i r hc
      cases h
      have ht : t ≠ 34 := by
        rintro rfl
        exact absurd hc.1 (by decide)
      exact ⟨hL, okA_tl (okA_tl (okA_tl hst)), okM_uI hM _ _ _ (okA_hd hst), sc_uI ht⟩
    · cases h
  · cases h
theorem ok_lastore (hL : okA L) (hst : okA st) (hM : okM σ) (h : stp y (.lastore) pc L st σ = some q) : okS σ q := by
  simp only [stp] at h
  split at h
  · split at h
    · cases h
      exact ⟨hL, okA_tl (okA_tl (okA_tl hst)), hM, fun _ => rfl⟩
    · cases h
  · cases h
theorem ok_aastore (hL : okA L) (hst : okA st) (hM : okM σ) (h : stp y (.aastore) pc L st σ = some q) : okS σ q := by
  simp only [stp] at h
  split at h
  · split at h
    · rename_i t2 i2 a t i r hc
      cases h
      obtain ⟨rfl, rfl, -⟩ := hc
      exact ⟨hL, okA_tl (okA_tl (okA_tl hst)), okM_uR hM _ (okR_of (okA_hd hst) (by decide)), fun _ => rfl⟩
    · cases h
  · cases h
theorem ok_brn {off : Int} {b : Bool} {r : List AV} (hL : okA L) (hr : okA r) (hM : okM σ) (h : brn pc off b L r σ = some q) : okS σ q := by
  unfold brn at h
  split at h
  · split at h
    · cases h
      exact ⟨hL, hr, hM, fun _ => rfl⟩
    · cases h
      exact ⟨hL, hr, hM, fun _ => rfl⟩
  · cases h
theorem ok_if_icmp {k : ClassFile.Cond} {off : Int} (hL : okA L) (hst : okA st) (hM : okM σ) (h : stp y (.if_icmp k off) pc L st σ = some q) : okS σ q := by
  simp only [stp] at h
  split at h
  · exact ok_brn hL (okA_tl (okA_tl hst)) hM h
  · cases h
theorem ok_ifCond {k : ClassFile.Cond} {off : Int} (hL : okA L) (hst : okA st) (hM : okM σ) (h : stp y (.ifCond k off) pc L st σ = some q) : okS σ q := by
  simp only [stp] at h
  split at h
  · exact ok_brn hL (okA_tl hst) hM h
  · cases h
theorem ok_if_acmp {k : ClassFile.ACond} {off : Int} (hL : okA L) (hst : okA st) (hM : okM σ) (h : stp y (.if_acmp k off) pc L st σ = some q) : okS σ q := by
  simp only [stp] at h
  split at h
  · split at h
    · exact ok_brn hL (okA_tl (okA_tl hst)) hM h
    · cases h
  · cases h
theorem ok_ifnull {off : Int} (hL : okA L) (hst : okA st) (hM : okM σ) (h : stp y (.ifnull off) pc L st σ = some q) : okS σ q := by
  simp only [stp] at h
  split at h
  · exact ok_brn hL (okA_tl hst) hM h
  · cases h
theorem ok_ifnonnull {off : Int} (hL : okA L) (hst : okA st) (hM : okM σ) (h : stp y (.ifnonnull off) pc L st σ = some q) : okS σ q := by
  simp only [stp] at h
  split at h
  · exact ok_brn hL (okA_tl hst) hM h
  · cases h
theorem ok_goto {off : Int} (hL : okA L) (hst : okA st) (hM : okM σ) (h : stp y (.goto off) pc L st σ = some q) : okS σ q := by
  simp only [stp] at h
  split at h
  · cases h
    exact ⟨hL, hst, hM, fun _ => rfl⟩
  · cases h
theorem ok_tableswitch {d lo hi : Int} {offs : Array Int} (hL : okA L) (hst : okA st) (hM : okM σ) (h : stp y (.tableswitch d lo hi offs) pc L st σ = some q) : okS σ q := by
  simp only [stp] at h
  split at h
  · split at h
    · split at h
      · cases h
        exact ⟨hL, okA_tl hst, hM, fun _ => rfl⟩
      · cases h
    · split at h
      · split at h
        · cases h
          exact ⟨hL, okA_tl hst, hM, fun _ => rfl⟩
        · cases h
      · cases h
  · cases h
theorem site_lt {o x k n y' : Nat} (hk : k < 3) (h : site o x = some (k, n, y')) : y' < 213 := by
  obtain ⟨p, hs⟩ := site_ok h
  rcases (show k = 0 ∨ k = 1 ∨ k = 2 by omega) with rfl | rfl | rfl <;> simp only [siteOk, Bool.and_eq_true] at hs
  · exact of_decide_eq_true hs.1.1.1.1.1
  · exact of_decide_eq_true hs.1.1.1
  · exact of_decide_eq_true hs.1.1.1
theorem ok_call {x K : Nat} (hL : okA L) (hst : okA st) (hM : okM σ) (h : call y x pc K L st σ = some q) : okS σ q := by
  unfold call at h
  split at h
  · rename_i n y' hs
    split at h
    · split at h
      · rename_i t i r hd
        split at h
        · cases h
          have h1 := okA_drop hst n
          rw [hd] at h1
          exact ⟨site_lt (by decide) hs, okA_cons (okA_hd h1) (okA_rt hst n), hL, okA_tl h1, rfl⟩
        · cases h
      · cases h
    · cases h
  · rename_i n y' hs
    split at h
    · cases h
      exact ⟨site_lt (by decide) hs, okA_rt hst n, hL, okA_drop hst n, rfl⟩
    · cases h
  · rename_i n y' hs
    split at h
    · cases h
      exact ⟨site_lt (by decide) hs, okA_rt hst n, hL, okA_drop hst n, rfl⟩
    · cases h
  · split at h
    · split at h
      · rename_i hc
        split at h
        · cases h
          exact ⟨hL, okA_tl (okA_tl (okA_tl (okA_tl (okA_tl hst)))), okM_kI hM _ _ _ _ _ _ _, sc_kI hc.2.2.2.1⟩
        · cases h
          exact ⟨hL, okA_tl (okA_tl (okA_tl (okA_tl (okA_tl hst)))), hM, fun _ => rfl⟩
        · cases h
      · cases h
    · cases h
  · split at h
    · split at h
      · cases h
        refine ⟨hL, okA_cons ?_ (okA_tl (okA_tl hst)), hM, fun _ => rfl⟩
        split
        · exact okA_hd hst
        · exact okA_hd (okA_tl hst)
      · cases h
    · cases h
  · split at h
    · split at h
      · cases h
        refine ⟨hL, okA_cons ?_ (okA_tl hst), hM, fun _ => rfl⟩
        split
        · exact okA_hd hst
        · exact ok_wr _
      · cases h
    · cases h
  · cases h
theorem ok_invokevirtual {x : Nat} (hL : okA L) (hst : okA st) (hM : okM σ) (h : stp y (.invokevirtual x) pc L st σ = some q) : okS σ q := by
  simp only [stp] at h
  exact ok_call hL hst hM h
theorem ok_invokestatic {x : Nat} (hL : okA L) (hst : okA st) (hM : okM σ) (h : stp y (.invokestatic x) pc L st σ = some q) : okS σ q := by
  simp only [stp] at h
  exact ok_call hL hst hM h
theorem ok_ireturn (hL : okA L) (hst : okA st) (hM : okM σ) (h : stp y (.ireturn) pc L st σ = some q) : okS σ q := by
  simp only [stp] at h
  split at h
  · split at h
    · cases h
      exact ⟨fun w e => by cases e; exact okA_hd hst, hM, fun _ => rfl⟩
    · split at h
      · cases h
        exact ⟨fun w e => by cases e; exact okA_hd hst, hM, fun _ => rfl⟩
      · cases h
    · cases h
  · cases h
theorem ok_lreturn (hL : okA L) (hst : okA st) (hM : okM σ) (h : stp y (.lreturn) pc L st σ = some q) : okS σ q := by
  simp only [stp] at h
  split at h
  · split at h
    · cases h
      exact ⟨fun w e => by cases e; exact okA_hd hst, hM, fun _ => rfl⟩
    · cases h
  · cases h
theorem ok_areturn (hL : okA L) (hst : okA st) (hM : okM σ) (h : stp y (.areturn) pc L st σ = some q) : okS σ q := by
  simp only [stp] at h
  split at h
  · split at h
    · cases h
      exact ⟨fun w e => by cases e; exact okA_hd hst, hM, fun _ => rfl⟩
    · cases h
  · cases h
theorem ok_return_ (hL : okA L) (hst : okA st) (hM : okM σ) (h : stp y (.return_) pc L st σ = some q) : okS σ q := by
  simp only [stp] at h
  split at h
  · split at h
    · cases h
      exact ⟨fun w e => (by cases e), hM, fun _ => rfl⟩
    · cases h
  · cases h
theorem stp_ok {ins : Instr} (hL : okA L) (hst : okA st) (hM : okM σ) (h : stp y ins pc L st σ = some q) : okS σ q := by
  cases ins
  case aload_n => exact ok_aload_n hL hst hM h
  case aload => exact ok_aload hL hst hM h
  case iload_n => exact ok_iload_n hL hst hM h
  case iload => exact ok_iload hL hst hM h
  case lload_n => exact ok_lload_n hL hst hM h
  case istore_n => exact ok_istore_n hL hst hM h
  case istore => exact ok_istore hL hst hM h
  case astore_n => exact ok_astore_n hL hst hM h
  case astore => exact ok_astore hL hst hM h
  case iinc => exact ok_iinc hL hst hM h
  case aconst_null => exact ok_aconst_null hL hst hM h
  case iconst => exact ok_iconst hL hst hM h
  case bipush => exact ok_bipush hL hst hM h
  case sipush => exact ok_sipush hL hst hM h
  case lconst => exact ok_lconst hL hst hM h
  case ldc => exact ok_ldc hL hst hM h
  case ldc_w => exact ok_ldc_w hL hst hM h
  case ldc2_w => exact ok_ldc2_w hL hst hM h
  case dup => exact ok_dup hL hst hM h
  case dup2 => exact ok_dup2 hL hst hM h
  case pop => exact ok_pop hL hst hM h
  case iadd => exact ok_iadd hL hst hM h
  case isub => exact ok_isub hL hst hM h
  case imul => exact ok_imul hL hst hM h
  case iand => exact ok_iand hL hst hM h
  case iushr => exact ok_iushr hL hst hM h
  case idiv => exact ok_idiv hL hst hM h
  case irem => exact ok_irem hL hst hM h
  case ineg => exact ok_ineg hL hst hM h
  case i2b => exact ok_i2b hL hst hM h
  case i2s => exact ok_i2s hL hst hM h
  case l2i => exact ok_l2i hL hst hM h
  case i2l => exact ok_i2l hL hst hM h
  case ladd => exact ok_ladd hL hst hM h
  case land => exact ok_land hL hst hM h
  case lor => exact ok_lor hL hst hM h
  case lshl => exact ok_lshl hL hst hM h
  case lcmp => exact ok_lcmp hL hst hM h
  case getfield => exact ok_getfield hL hst hM h
  case putfield => exact ok_putfield hL hst hM h
  case arraylength => exact ok_arraylength hL hst hM h
  case iaload => exact ok_iaload hL hst hM h
  case baload => exact ok_baload hL hst hM h
  case laload => exact ok_laload hL hst hM h
  case aaload => exact ok_aaload hL hst hM h
  case iastore => exact ok_iastore hL hst hM h
  case bastore => exact ok_bastore hL hst hM h
  case lastore => exact ok_lastore hL hst hM h
  case aastore => exact ok_aastore hL hst hM h
  case if_icmp => exact ok_if_icmp hL hst hM h
  case ifCond => exact ok_ifCond hL hst hM h
  case if_acmp => exact ok_if_acmp hL hst hM h
  case ifnull => exact ok_ifnull hL hst hM h
  case ifnonnull => exact ok_ifnonnull hL hst hM h
  case goto => exact ok_goto hL hst hM h
  case tableswitch => exact ok_tableswitch hL hst hM h
  case invokevirtual => exact ok_invokevirtual hL hst hM h
  case invokestatic => exact ok_invokestatic hL hst hM h
  case ireturn => exact ok_ireturn hL hst hM h
  case lreturn => exact ok_lreturn hL hst hM h
  case areturn => exact ok_areturn hL hst hM h
  case return_ => exact ok_return_ hL hst hM h
  all_goals (simp only [stp] at h; cases h)
end OKS
theorem lay_ok {as : List AV} (h : okA as) : okA (lay as) := by
  intro v hv
  unfold lay at hv
  obtain ⟨w, hw, hv⟩ := List.mem_flatMap.mp hv
  split at hv
  · rcases List.mem_cons.mp hv with rfl | hv
    · exact h _ hw
    · rw [List.mem_singleton.mp hv]; trivial
  · rw [List.mem_singleton.mp hv]; exact h _ hw
theorem lay0_ok {y : Nat} {as : List AV} (h : okA as) : okA (lay0 y as) := by
  intro v hv
  unfold lay0 at hv
  rcases List.mem_append.mp hv with hv | hv
  · exact lay_ok h v hv
  · rw [List.eq_of_mem_replicate hv]; trivial
/-- a run keeps all that -/
theorem run_ok : ∀ (n y pc : Nat) (L st : List AV) (σ : aM) (v : Option AV) (σ' : aM), runF n y (pc, L, st, σ) = some (v, σ') → okA L → okA st → okM σ → (∀ w, v = some w → okv w) ∧ okM σ' ∧ ∀ j, gI σ' 34 0 j = gI σ 34 0 j := by
  intro n
  induction n with
  | zero => intro y pc L st σ v σ' h; cases h
  | succ n ih =>
    intro y pc L st σ v σ' h hL hst hM
    rw [runF] at h
    cases hf : fetch y pc with
    | none => rw [hf] at h; cases h
    | some i =>
      rw [hf] at h
      dsimp only at h
      cases hs : stp y i pc L st σ with
      | none => rw [hs] at h; cases h
      | some q =>
        rw [hs] at h
        have hq := stp_ok hL hst hM hs
        obtain ⟨pc', L', st', σ1⟩ | ⟨v', σ1⟩ | ⟨y', as, pc', L', r, σ1⟩ := q
        · obtain ⟨h1, h2, h3, h4⟩ := hq
          obtain ⟨g1, g2, g3⟩ := ih _ _ _ _ _ _ _ h h1 h2 h3
          exact ⟨g1, g2, fun j => (g3 j).trans (h4 j)⟩
        · cases h
          exact hq
        · obtain ⟨h0, h1, h2, h3, rfl⟩ := hq
          dsimp only at h
          cases hc : runF n y' (0, lay0 y' as, [], σ1) with
          | none => rw [hc] at h; cases h
          | some p =>
            obtain ⟨w, σ2⟩ := p
            rw [hc] at h
            obtain ⟨g1, g2, g3⟩ := ih _ _ _ _ _ _ _ hc (lay0_ok h1) okA_nil hM
            obtain ⟨k1, k2, k3⟩ := ih _ _ _ _ _ _ _ h h2 (by
              intro u hu
              rcases List.mem_append.mp hu with hu | hu
              · exact g1 u (Option.mem_toList.mp hu)
              · exact h3 u hu) g2
            exact ⟨k1, k2, fun j => (k3 j).trans (g3 j)⟩
end
section
/-! numbers -/
theorem o32_id {a : Int} (h : okI a) : (Int32.ofInt a).toInt = a := Int32.toInt_ofInt_of_le h.1 h.2
theorem o32_wr (a : Int) : Int32.ofInt (wr a) = Int32.ofInt a := Int32.ofInt_toInt _
theorem o32_i (x : Int32) : Int32.ofInt x.toInt = x := Int32.ofInt_toInt x
theorem o32_eq {a b : Int} (h1 : okI a) (h2 : okI b) : Int32.ofInt a = Int32.ofInt b ↔ a = b := by
  constructor
  · intro h
    rw [← o32_id h1, ← o32_id h2, h]
  · intro h; rw [h]
theorem o32_lt {a b : Int} (h1 : okI a) (h2 : okI b) : Int32.ofInt a < Int32.ofInt b ↔ a < b := by
  rw [Int32.lt_iff_toInt_lt, o32_id h1, o32_id h2]
theorem o32_le {a b : Int} (h1 : okI a) (h2 : okI b) : Int32.ofInt a ≤ Int32.ofInt b ↔ a ≤ b := by
  rw [Int32.le_iff_toInt_le, o32_id h1, o32_id h2]
theorem okI_0 : okI 0 := ⟨by decide, by decide⟩
theorem o32_cl {a : Int} (h : okI a) : (Int32.ofInt a).toNatClampNeg = a.toNat := by
  rw [Int32.toNatClampNeg, o32_id h]
theorem o32_in {a : Int} {n : Nat} (h : okI a) (h0 : 0 ≤ a) (h1 : a < (n : Int)) : vp_in (Int32.ofInt a) n := by
  unfold vp_in
  rw [o32_cl h]
  rintro (q | q)
  · rw [show (0 : Int32) = Int32.ofInt 0 from rfl, o32_lt h okI_0] at q
    omega
  · omega
/-! locals -/
def LR (ad : Nat → Int → Nat) (L : List AV) (ls : Array Slot) : Prop := ls.size = L.length ∧ lv_wf ls ∧ ∀ (k : Nat) (v : AV), L[k]? = some v → cat v ≠ 9 → ls[k]? = some (.val (cv ad v))
theorem cv_cat (ad : Nat → Int → Nat) {v : AV} (h : cat v ≠ 9) : (cv ad v).category = cat v := by
  rcases v with a | x | q | u
  · rfl
  · rfl
  · cases q <;> rfl
  · exact absurd rfl h
theorem cat_isJ {v : AV} (h : isJ v = false) : cat v ≠ 2 := by
  rcases v with a | x | q | u
  · exact (by decide : (1 : Nat) ≠ 2)
  · cases h
  · exact (by decide : (1 : Nat) ≠ 2)
  · exact (by decide : (9 : Nat) ≠ 2)
def lvl (ad : Nat → Int → Nat) (L : List AV) : List (Nat × Value) := (List.range L.length).filterMap fun k => match L[k]? with
  | some v => if cat v = 9 then none else some (k, cv ad v)
  | none => none
theorem lvl_has {ad : Nat → Int → Nat} {L : List AV} {ls : Array Slot} (h : LR ad L ls) : lv_has ls L.length (lvl ad L) := by
  refine ⟨h.1, h.2.1, fun q hq => ?_⟩
  obtain ⟨k, -, hk⟩ := List.mem_filterMap.mp hq
  split at hk
  · rename_i v hv
    split at hk
    · cases hk
    · rename_i hc
      cases hk
      exact h.2.2 k v hv hc
  · cases hk
theorem lvl_mem {ad : Nat → Int → Nat} {L : List AV} {k : Nat} {v : AV} (h : L[k]? = some v) (hc : cat v ≠ 9) : (k, cv ad v) ∈ lvl ad L := by
  refine List.mem_filterMap.mpr ⟨k, List.mem_range.mpr (List.getElem?_eq_some_iff.mp h).1, ?_⟩
  rw [h]
  simp only [if_neg hc]
theorem LR_set {ad : Nat → Int → Nat} {L : List AV} {i : Nat} {v : AV} {ls' : Array Slot} (hi : okSt L i = true) (hl : i < L.length) (h : lv_has ls' L.length ((i, cv ad v) :: (lvl ad L).filter (fun q => !(q.1 == i) && !(q.1 + 1 == i && q.2.category == 2)))) : LR ad (L.set i v) ls' := by
  refine ⟨by rw [List.length_set]; exact h.1, h.2.1, fun k w hk hc => ?_⟩
  by_cases hki : k = i
  · subst hki
    rw [List.getElem?_set_self hl] at hk
    cases hk
    exact h.2.2 _ List.mem_cons_self
  · rw [List.getElem?_set_ne (Ne.symm hki)] at hk
    refine h.2.2 (k, cv ad w) (List.mem_cons_of_mem _ (List.mem_filter.mpr ⟨lvl_mem hk hc, ?_⟩))
    have h1 : (k == i) = false := by simpa using hki
    by_cases h2 : k + 1 = i
    · subst h2
      have h3 : isJ w = false := by
        unfold okSt at hi
        simp only [hk, Option.map_some, Option.getD_some, Bool.not_eq_true'] at hi
        exact hi
      have h4 : ((cv ad w).category == 2) = false := by
        rw [cv_cat ad hc]
        simpa using cat_isJ h3
      simp [h4]
    · have h5 : (k + 1 == i) = false := by simpa using h2
      simp [h1, h5]
theorem lay_args {ad : Nat → Int → Nat} : ∀ (as : List AV) (i k : Nat) (v : AV), (lay as)[k]? = some v → cat v ≠ 9 → (i + k, cv ad v) ∈ lv_args i (as.map (cv ad))
  | [], i, k, v, h, _ => by cases h
  | a :: as, i, k, v, h, hc => by
    have ih := lay_args (ad := ad) as
    show (i + k, cv ad v) ∈ (i, cv ad a) :: lv_args (if (cv ad a).category = 2 then i + 2 else i + 1) (as.map (cv ad))
    have hl : lay (a :: as) = (if isJ a then [a, aU] else [a]) ++ lay as := by
      unfold lay
      rw [List.flatMap_cons]
    rw [hl] at h
    rcases a with x | x | q | u
    · cases k with
      | zero => cases h; exact List.mem_cons_self
      | succ k =>
        refine List.mem_cons_of_mem _ ?_
        have := ih (i + 1) k v h hc
        rw [show i + 1 + k = i + (k + 1) by omega] at this
        exact this
    · cases k with
      | zero => cases h; exact List.mem_cons_self
      | succ k =>
        cases k with
        | zero => cases h; exact absurd rfl hc
        | succ k =>
          refine List.mem_cons_of_mem _ ?_
          have := ih (i + 2) k v h hc
          rw [show i + 2 + k = i + (k + 1 + 1) by omega] at this
          exact this
    · cases k with
      | zero => cases h; exact List.mem_cons_self
      | succ k =>
        refine List.mem_cons_of_mem _ ?_
        have := ih (i + 1) k v h hc
        rw [show i + 1 + k = i + (k + 1) by omega] at this
        cases q <;> exact this
    · cases k with
      | zero => cases h; exact absurd rfl hc
      | succ k =>
        refine List.mem_cons_of_mem _ ?_
        have := ih (i + 1) k v h hc
        rw [show i + 1 + k = i + (k + 1) by omega] at this
        exact this
theorem lay_len {ad : Nat → Int → Nat} (as : List AV) : (lg_sl (as.map (cv ad))).length = (lay as).length := by
  induction as with
  | nil => rfl
  | cons a as ih =>
    have hl : lay (a :: as) = (if isJ a then [a, aU] else [a]) ++ lay as := by
      unfold lay
      rw [List.flatMap_cons]
    have hg : lg_sl ((a :: as).map (cv ad)) = (if (cv ad a).category = 2 then [Slot.val (cv ad a), .second] else [Slot.val (cv ad a)]) ++ lg_sl (as.map (cv ad)) := by
      unfold lg_sl
      rw [List.map_cons, List.flatMap_cons]
    rw [hl, hg, List.length_append, List.length_append, ih]
    rcases a with x | x | q | u
    · rfl
    · rfl
    · cases q <;> rfl
    · rfl
/-- a method's entry -/
theorem LR_entry {ad : Nat → Int → Nat} {y : Nat} {as : List AV} (h : (lay as).length ≤ mL y) : LR ad (lay0 y as) ((lg_sl (as.map (cv ad)) ++ List.replicate (mL y - (lg_sl (as.map (cv ad))).length) Slot.unset).toArray) := by
  have hl := lv_entry (as.map (cv ad)) (n := mL y) (by rw [lay_len]; exact h)
  refine ⟨?_, hl.2.1, fun k v hk hc => ?_⟩
  · rw [hl.1]
    unfold lay0
    rw [List.length_append, List.length_replicate]
    omega
  · unfold lay0 at hk
    rw [List.getElem?_append] at hk
    split at hk
    · have := lay_args (ad := ad) as 0 k v hk hc
      rw [Nat.zero_add] at this
      exact hl.2.2 _ this
    · rw [List.getElem?_replicate] at hk
      split at hk
      · cases hk
        exact absurd rfl hc
      · cases hk
/-! what a method's walk stands on -/
def tysOf (cy : Nat → ClassId) : List (ClassId × FieldType) := [(cy 0, .int), (cy 1, .long), (cy 2, .boolean), (cy 3, .object "UncrossedBook$Shelf"), (cy 4, .object "UncrossedBook$Order")]
def NW (U : State) : Prop := ∀ o x n y', site o x = some (2, n, y') → va_Nw (.methodLinkNest (cN o) x (mNm y') "UncrossedBook") U
theorem NW.moved {s U : State} (hW : s.WarmedH U.vm) (h : NW s) : NW U := fun o x n y' hs => va_Nw.warmM hW (h o x n y' hs)
theorem NW.same {s U : State} (hv : s.vm = U.vm) (h : NW s) : NW U := fun o x n y' hs => va_Nw.same rfl hv (h o x n y' hs)
theorem fetch_dec {y pc n : Nat} {i : Instr} (hf : fetch y pc = some i) (hn : ilen i = n) (h0 : n ≠ 0) : decode (mCd y) pc = .ok (i, n) := by
  unfold fetch at hf
  split at hf
  · rename_i i' n' hd
    split at hf
    · rename_i hc
      cases hf
      rw [hd]
      rcases hc with hc | hc
      · exact absurd (hn.symm.trans hc) h0
      · rw [hc, hn]
    · cases hf
  · cases hf
theorem fetch_sw {y pc : Nat} {i : Instr} (hf : fetch y pc = some i) : ∃ n, decode (mCd y) pc = .ok (i, n) := by
  unfold fetch at hf
  split at hf
  · rename_i i' n' hd
    split at hf
    · cases hf
      exact ⟨n', hd⟩
    · cases hf
  · cases hf
theorem tg_at {pc t : Nat} {off : Int} (h : tg pc off = some t) : (pc : Int) + off = (t : Int) := by
  unfold tg at h
  split at h
  · cases h
    omega
  · cases h
/-- the script as the memory has it -/
def Sc (σ : aM) (n : Nat) (xs : Nat → Int32) : Prop := gI σ 34 0 (-1) = (n : Int) ∧ ∀ j : Nat, j < n → gI σ 34 0 (j : Int) = (xs j).toInt
theorem Sc.to {σ σ' : aM} {n : Nat} {xs : Nat → Int32} (h : Sc σ n xs) (hk : ∀ j, gI σ' 34 0 j = gI σ 34 0 j) : Sc σ' n xs := ⟨(hk _).trans h.1, fun j hj => (hk _).trans (h.2 j hj)⟩
section SND
variable {p : Program} {l : Launch} {e : Env} {R : Room} {s : State} {m : MethodId} {args : Array Value} {below : List Frame} {meth : Method} {c : Code} {cells slots : Nat} {Q : State → Prop}
variable {D : va_G} {ad : Nat → Int → Nat} {cy : Nat → ClassId} {A : Nat → Prop} {b n : Nat} {xs : Nat → Int32} {y pc : Nat} {L st : List AV} {σ : aM} {g : aG}
def Cx (D : va_G) (ad : Nat → Int → Nat) (cy : Nat → ClassId) (A : Nat → Prop) (b n : Nat) (xs : Nat → Int32) (y : Nat) (p : Program) (R : Room) (s : State) (m : MethodId) (args : Array Value) (c : Code) (cells slots : Nat) : Prop :=
  p.tables.exec = Jvm.exec ∧ c.code = mCd y ∧ c.maxLocals = mL y ∧ s.vm.findClass (cN (mC y)) = some m.cls ∧ (∀ w ∈ TB, w.before args s = true) ∧ va_K D vwCl (tysOf cy) s ∧ NW s ∧ Apart A ad ∧ (mF y ≤ R.frames ∧ mW y ≤ R.locals) ∧ (cells ≤ R.cells ∧ slots ≤ R.slots) ∧ ad 34 0 = b ∧ va_X b n xs s s.heap ∧ b < s.heap.size ∧ ¬ A b ∧ n < 2 ^ 31
def Nx (D : va_G) (ad : Nat → Int → Nat) (cy : Nat → ClassId) (A : Nat → Prop) (p : Program) (l : Launch) (e : Env) (R : Room) (s : State) (m : MethodId) (args : Array Value) (below : List Frame) (meth : Method) (c : Code) (cells slots : Nat) (Q : State → Prop) (g : aG) : Prop :=
  ∀ (H : Heap) (locs : List Loc) (ls : Array Slot), va_P D vwCl (WS ad cy g.2.2.2) H → va_S A s.heap H locs → LR ad g.2.1 ls → W p l e R s m args below meth c H locs cells slots Q (F0 m g.1 ls (g.2.2.1.map (cv ad)))
theorem so_aload_n {k : Fin 4} (C : Cx D ad cy A b n xs y p R s m args c cells slots) (hL : okA L) (hst : okA st) (hM : okM σ) (hSc : Sc σ n xs) (hf : fetch y pc = some (.aload_n k)) (hs : stp y (.aload_n k) pc L st σ = some (.inl g)) (K : Nx D ad cy A p l e R s m args below meth c cells slots Q g) : Nx D ad cy A p l e R s m args below meth c cells slots Q (pc, L, st, σ) := by
  obtain ⟨hx, hb, hml, hown, hts, hK, hN, hap, hR, hcl, hsb, hX, hbl, hbA, hn⟩ := C
  intro H locs ls hP hS hl
  simp only [stp] at hs
  split at hs
  · rename_i q hq
    cases hs
    have h1 := hl.2.2 _ _ hq (fun z => by cases z)
    cases q with
    | none => exact lv_aload_nN hx hb (fetch_dec hf rfl (by decide)) rfl h1 (K H locs ls hP hS hl)
    | some q => exact lv_aload_n hx hb (fetch_dec hf rfl (by decide)) rfl h1 (K H locs ls hP hS hl)
  · cases hs
theorem so_aload {k : Nat} (C : Cx D ad cy A b n xs y p R s m args c cells slots) (hL : okA L) (hst : okA st) (hM : okM σ) (hSc : Sc σ n xs) (hf : fetch y pc = some (.aload k)) (hs : stp y (.aload k) pc L st σ = some (.inl g)) (K : Nx D ad cy A p l e R s m args below meth c cells slots Q g) : Nx D ad cy A p l e R s m args below meth c cells slots Q (pc, L, st, σ) := by
  obtain ⟨hx, hb, hml, hown, hts, hK, hN, hap, hR, hcl, hsb, hX, hbl, hbA, hn⟩ := C
  intro H locs ls hP hS hl
  simp only [stp] at hs
  split at hs
  · rename_i q hq
    cases hs
    have h1 := hl.2.2 _ _ hq (fun z => by cases z)
    cases q with
    | none => exact lv_aloadN hx hb (fetch_dec hf rfl (by decide)) h1 (K H locs ls hP hS hl)
    | some q => exact lv_aload hx hb (fetch_dec hf rfl (by decide)) h1 (K H locs ls hP hS hl)
  · cases hs
theorem so_iload_n {k : Fin 4} (C : Cx D ad cy A b n xs y p R s m args c cells slots) (hL : okA L) (hst : okA st) (hM : okM σ) (hSc : Sc σ n xs) (hf : fetch y pc = some (.iload_n k)) (hs : stp y (.iload_n k) pc L st σ = some (.inl g)) (K : Nx D ad cy A p l e R s m args below meth c cells slots Q g) : Nx D ad cy A p l e R s m args below meth c cells slots Q (pc, L, st, σ) := by
  obtain ⟨hx, hb, hml, hown, hts, hK, hN, hap, hR, hcl, hsb, hX, hbl, hbA, hn⟩ := C
  intro H locs ls hP hS hl
  simp only [stp] at hs
  split at hs
  · rename_i q hq
    cases hs
    have h1 := hl.2.2 _ _ hq (fun z => by cases z)
    exact lv_iload_n hx hb (fetch_dec hf rfl (by decide)) rfl h1 (K H locs ls hP hS hl)
  · cases hs
theorem so_iload {k : Nat} (C : Cx D ad cy A b n xs y p R s m args c cells slots) (hL : okA L) (hst : okA st) (hM : okM σ) (hSc : Sc σ n xs) (hf : fetch y pc = some (.iload k)) (hs : stp y (.iload k) pc L st σ = some (.inl g)) (K : Nx D ad cy A p l e R s m args below meth c cells slots Q g) : Nx D ad cy A p l e R s m args below meth c cells slots Q (pc, L, st, σ) := by
  obtain ⟨hx, hb, hml, hown, hts, hK, hN, hap, hR, hcl, hsb, hX, hbl, hbA, hn⟩ := C
  intro H locs ls hP hS hl
  simp only [stp] at hs
  split at hs
  · rename_i q hq
    cases hs
    have h1 := hl.2.2 _ _ hq (fun z => by cases z)
    exact lv_iload hx hb (fetch_dec hf rfl (by decide)) h1 (K H locs ls hP hS hl)
  · cases hs
theorem so_lload_n {k : Fin 4} (C : Cx D ad cy A b n xs y p R s m args c cells slots) (hL : okA L) (hst : okA st) (hM : okM σ) (hSc : Sc σ n xs) (hf : fetch y pc = some (.lload_n k)) (hs : stp y (.lload_n k) pc L st σ = some (.inl g)) (K : Nx D ad cy A p l e R s m args below meth c cells slots Q g) : Nx D ad cy A p l e R s m args below meth c cells slots Q (pc, L, st, σ) := by
  obtain ⟨hx, hb, hml, hown, hts, hK, hN, hap, hR, hcl, hsb, hX, hbl, hbA, hn⟩ := C
  intro H locs ls hP hS hl
  simp only [stp] at hs
  split at hs
  · rename_i q hq
    cases hs
    have h1 := hl.2.2 _ _ hq (fun z => by cases z)
    exact lv_lload_n hx hb (fetch_dec hf rfl (by decide)) rfl h1 (K H locs ls hP hS hl)
  · cases hs
theorem so_istore_n {k : Fin 4} (C : Cx D ad cy A b n xs y p R s m args c cells slots) (hL : okA L) (hst : okA st) (hM : okM σ) (hSc : Sc σ n xs) (hf : fetch y pc = some (.istore_n k)) (hs : stp y (.istore_n k) pc L st σ = some (.inl g)) (K : Nx D ad cy A p l e R s m args below meth c cells slots Q g) : Nx D ad cy A p l e R s m args below meth c cells slots Q (pc, L, st, σ) := by
  obtain ⟨hx, hb, hml, hown, hts, hK, hN, hap, hR, hcl, hsb, hX, hbl, hbA, hn⟩ := C
  intro H locs ls hP hS hl
  simp only [stp] at hs
  split at hs
  · unfold stS at hs
    split at hs
    · rename_i hk
      cases hs
      exact lv_istore_n hx hb (fetch_dec hf rfl (by decide)) rfl (lvl_has hl) hk.1 rfl (fun ls' h' => K H locs ls' hP hS (LR_set hk.2 hk.1 h'))
    · cases hs
  · cases hs
theorem so_istore {k : Nat} (C : Cx D ad cy A b n xs y p R s m args c cells slots) (hL : okA L) (hst : okA st) (hM : okM σ) (hSc : Sc σ n xs) (hf : fetch y pc = some (.istore k)) (hs : stp y (.istore k) pc L st σ = some (.inl g)) (K : Nx D ad cy A p l e R s m args below meth c cells slots Q g) : Nx D ad cy A p l e R s m args below meth c cells slots Q (pc, L, st, σ) := by
  obtain ⟨hx, hb, hml, hown, hts, hK, hN, hap, hR, hcl, hsb, hX, hbl, hbA, hn⟩ := C
  intro H locs ls hP hS hl
  simp only [stp] at hs
  split at hs
  · unfold stS at hs
    split at hs
    · rename_i hk
      cases hs
      exact lv_istore hx hb (fetch_dec hf rfl (by decide)) (lvl_has hl) hk.1 rfl (fun ls' h' => K H locs ls' hP hS (LR_set hk.2 hk.1 h'))
    · cases hs
  · cases hs
theorem so_astore_n {k : Fin 4} (C : Cx D ad cy A b n xs y p R s m args c cells slots) (hL : okA L) (hst : okA st) (hM : okM σ) (hSc : Sc σ n xs) (hf : fetch y pc = some (.astore_n k)) (hs : stp y (.astore_n k) pc L st σ = some (.inl g)) (K : Nx D ad cy A p l e R s m args below meth c cells slots Q g) : Nx D ad cy A p l e R s m args below meth c cells slots Q (pc, L, st, σ) := by
  obtain ⟨hx, hb, hml, hown, hts, hK, hN, hap, hR, hcl, hsb, hX, hbl, hbA, hn⟩ := C
  intro H locs ls hP hS hl
  simp only [stp] at hs
  split at hs
  · rename_i q r
    unfold stS at hs
    split at hs
    · rename_i hk
      cases hs
      cases q with
      | none => exact lv_astore_nN hx hb (fetch_dec hf rfl (by decide)) rfl (lvl_has hl) hk.1 rfl (fun ls' h' => K H locs ls' hP hS (LR_set (v := aN) hk.2 hk.1 h'))
      | some q => exact lv_astore_n hx hb (fetch_dec hf rfl (by decide)) rfl (lvl_has hl) hk.1 rfl (fun ls' h' => K H locs ls' hP hS (LR_set (v := aQ (some q)) hk.2 hk.1 h'))
    · cases hs
  · cases hs
theorem so_astore {k : Nat} (C : Cx D ad cy A b n xs y p R s m args c cells slots) (hL : okA L) (hst : okA st) (hM : okM σ) (hSc : Sc σ n xs) (hf : fetch y pc = some (.astore k)) (hs : stp y (.astore k) pc L st σ = some (.inl g)) (K : Nx D ad cy A p l e R s m args below meth c cells slots Q g) : Nx D ad cy A p l e R s m args below meth c cells slots Q (pc, L, st, σ) := by
  obtain ⟨hx, hb, hml, hown, hts, hK, hN, hap, hR, hcl, hsb, hX, hbl, hbA, hn⟩ := C
  intro H locs ls hP hS hl
  simp only [stp] at hs
  split at hs
  · rename_i q r
    unfold stS at hs
    split at hs
    · rename_i hk
      cases hs
      cases q with
      | none => exact lv_astoreN hx hb (fetch_dec hf rfl (by decide)) (lvl_has hl) hk.1 rfl (fun ls' h' => K H locs ls' hP hS (LR_set (v := aN) hk.2 hk.1 h'))
      | some q => exact lv_astore hx hb (fetch_dec hf rfl (by decide)) (lvl_has hl) hk.1 rfl (fun ls' h' => K H locs ls' hP hS (LR_set (v := aQ (some q)) hk.2 hk.1 h'))
    · cases hs
  · cases hs
theorem so_iinc {k : Nat} {z : Int} (C : Cx D ad cy A b n xs y p R s m args c cells slots) (hL : okA L) (hst : okA st) (hM : okM σ) (hSc : Sc σ n xs) (hf : fetch y pc = some (.iinc k z)) (hs : stp y (.iinc k z) pc L st σ = some (.inl g)) (K : Nx D ad cy A p l e R s m args below meth c cells slots Q g) : Nx D ad cy A p l e R s m args below meth c cells slots Q (pc, L, st, σ) := by
  obtain ⟨hx, hb, hml, hown, hts, hK, hN, hap, hR, hcl, hsb, hX, hbl, hbA, hn⟩ := C
  intro H locs ls hP hS hl
  simp only [stp] at hs
  split at hs
  · rename_i v hv
    unfold stS at hs
    split at hs
    · rename_i hk
      cases hs
      have hm := lvl_mem (ad := ad) hv (fun z => by cases z)
      obtain ⟨j, hj⟩ := List.getElem?_of_mem hm
      have e1 : Value.int (Int32.ofInt v + Int32.ofInt z) = cv ad (aI (wr (v + z))) := by
        show _ = Value.int (Int32.ofInt (wr (v + z)))
        rw [o32_wr, Int32.ofInt_add]
      refine lv_iinc (v := Int32.ofInt v + Int32.ofInt z) hx hb (fetch_dec hf rfl (by decide)) (lvl_has hl) hj rfl hk.1 rfl (fun ls' h' => K H locs ls' hP hS (LR_set hk.2 hk.1 ?_))
      rw [← e1]
      exact h'
    · cases hs
  · cases hs
theorem so_aconst_null (C : Cx D ad cy A b n xs y p R s m args c cells slots) (hL : okA L) (hst : okA st) (hM : okM σ) (hSc : Sc σ n xs) (hf : fetch y pc = some (.aconst_null)) (hs : stp y (.aconst_null) pc L st σ = some (.inl g)) (K : Nx D ad cy A p l e R s m args below meth c cells slots Q g) : Nx D ad cy A p l e R s m args below meth c cells slots Q (pc, L, st, σ) := by
  obtain ⟨hx, hb, hml, hown, hts, hK, hN, hap, hR, hcl, hsb, hX, hbl, hbA, hn⟩ := C
  intro H locs ls hP hS hl
  simp only [stp] at hs
  cases hs
  exact lv_null hx hb (fetch_dec hf rfl (by decide)) (K H locs ls hP hS hl)
theorem so_iconst {z : Int} (C : Cx D ad cy A b n xs y p R s m args c cells slots) (hL : okA L) (hst : okA st) (hM : okM σ) (hSc : Sc σ n xs) (hf : fetch y pc = some (.iconst z)) (hs : stp y (.iconst z) pc L st σ = some (.inl g)) (K : Nx D ad cy A p l e R s m args below meth c cells slots Q g) : Nx D ad cy A p l e R s m args below meth c cells slots Q (pc, L, st, σ) := by
  obtain ⟨hx, hb, hml, hown, hts, hK, hN, hap, hR, hcl, hsb, hX, hbl, hbA, hn⟩ := C
  intro H locs ls hP hS hl
  simp only [stp] at hs
  split at hs
  · cases hs
    exact lv_iconst hx hb (fetch_dec hf rfl (by decide)) rfl (K H locs ls hP hS hl)
  · cases hs
theorem so_bipush {z : Int} (C : Cx D ad cy A b n xs y p R s m args c cells slots) (hL : okA L) (hst : okA st) (hM : okM σ) (hSc : Sc σ n xs) (hf : fetch y pc = some (.bipush z)) (hs : stp y (.bipush z) pc L st σ = some (.inl g)) (K : Nx D ad cy A p l e R s m args below meth c cells slots Q g) : Nx D ad cy A p l e R s m args below meth c cells slots Q (pc, L, st, σ) := by
  obtain ⟨hx, hb, hml, hown, hts, hK, hN, hap, hR, hcl, hsb, hX, hbl, hbA, hn⟩ := C
  intro H locs ls hP hS hl
  simp only [stp] at hs
  split at hs
  · rename_i hz
    cases hs
    refine lv_bipush (v := Int32.ofInt z) hx hb (fetch_dec hf rfl (by decide)) ?_ (K H locs ls hP hS hl)
    rw [← Int32.toInt_inj, Int8.toInt_toInt32, Int8.toInt_ofInt_of_le hz.1 hz.2, o32_id ⟨by omega, by omega⟩]
  · cases hs
theorem so_sipush {z : Int} (C : Cx D ad cy A b n xs y p R s m args c cells slots) (hL : okA L) (hst : okA st) (hM : okM σ) (hSc : Sc σ n xs) (hf : fetch y pc = some (.sipush z)) (hs : stp y (.sipush z) pc L st σ = some (.inl g)) (K : Nx D ad cy A p l e R s m args below meth c cells slots Q g) : Nx D ad cy A p l e R s m args below meth c cells slots Q (pc, L, st, σ) := by
  obtain ⟨hx, hb, hml, hown, hts, hK, hN, hap, hR, hcl, hsb, hX, hbl, hbA, hn⟩ := C
  intro H locs ls hP hS hl
  simp only [stp] at hs
  split at hs
  · rename_i hz
    cases hs
    refine lv_sipush (v := Int32.ofInt z) hx hb (fetch_dec hf rfl (by decide)) ?_ (K H locs ls hP hS hl)
    rw [← Int32.toInt_inj, Int16.toInt_toInt32, Int16.toInt_ofInt_of_le hz.1 hz.2, o32_id ⟨by omega, by omega⟩]
  · cases hs
theorem so_lconst {z : Fin 2} (C : Cx D ad cy A b n xs y p R s m args c cells slots) (hL : okA L) (hst : okA st) (hM : okM σ) (hSc : Sc σ n xs) (hf : fetch y pc = some (.lconst z)) (hs : stp y (.lconst z) pc L st σ = some (.inl g)) (K : Nx D ad cy A p l e R s m args below meth c cells slots Q g) : Nx D ad cy A p l e R s m args below meth c cells slots Q (pc, L, st, σ) := by
  obtain ⟨hx, hb, hml, hown, hts, hK, hN, hap, hR, hcl, hsb, hX, hbl, hbA, hn⟩ := C
  intro H locs ls hP hS hl
  simp only [stp] at hs
  cases hs
  exact lv_lconst hx hb (fetch_dec hf rfl (by decide)) rfl (K H locs ls hP hS hl)
theorem cst_in {c x : Nat} {v : Int} (h : cst c x = some v) : Cond.constant (cN c) x (Int32.ofInt v) ∈ TB := by
  unfold cst at h
  cases hf : cstT.find? (fun q => q.1 == c && q.2.1 == x) with
  | none => rw [hf] at h; cases h
  | some q =>
    rw [hf] at h
    have hm := List.mem_of_find?_eq_some hf
    have hx := List.find?_some hf
    simp only [Bool.and_eq_true, beq_iff_eq] at hx
    simp only [Option.map_some, Option.some.injEq] at h
    subst h
    rw [← hx.1, ← hx.2]
    exact inTB (cst_ok _ hm) rfl
theorem so_ldc {x : Nat} (C : Cx D ad cy A b n xs y p R s m args c cells slots) (hL : okA L) (hst : okA st) (hM : okM σ) (hSc : Sc σ n xs) (hf : fetch y pc = some (.ldc x)) (hs : stp y (.ldc x) pc L st σ = some (.inl g)) (K : Nx D ad cy A p l e R s m args below meth c cells slots Q g) : Nx D ad cy A p l e R s m args below meth c cells slots Q (pc, L, st, σ) := by
  obtain ⟨hx, hb, hml, hown, hts, hK, hN, hap, hR, hcl, hsb, hX, hbl, hbA, hn⟩ := C
  intro H locs ls hP hS hl
  simp only [stp] at hs
  split at hs
  · rename_i v hv
    split at hs
    · cases hs
      exact lv_ldc hx hb hown (hts _ (cst_in hv)) (fetch_dec hf rfl (by decide)) (K H locs ls hP hS hl)
    · cases hs
  · cases hs
theorem so_ldc_w {x : Nat} (C : Cx D ad cy A b n xs y p R s m args c cells slots) (hL : okA L) (hst : okA st) (hM : okM σ) (hSc : Sc σ n xs) (hf : fetch y pc = some (.ldc_w x)) (hs : stp y (.ldc_w x) pc L st σ = some (.inl g)) (K : Nx D ad cy A p l e R s m args below meth c cells slots Q g) : Nx D ad cy A p l e R s m args below meth c cells slots Q (pc, L, st, σ) := by
  obtain ⟨hx, hb, hml, hown, hts, hK, hN, hap, hR, hcl, hsb, hX, hbl, hbA, hn⟩ := C
  intro H locs ls hP hS hl
  simp only [stp] at hs
  split at hs
  · rename_i v hv
    split at hs
    · cases hs
      exact lv_ldcw hx hb hown (hts _ (cst_in hv)) (fetch_dec hf rfl (by decide)) (K H locs ls hP hS hl)
    · cases hs
  · cases hs
theorem so_ldc2_w {x : Nat} (C : Cx D ad cy A b n xs y p R s m args c cells slots) (hL : okA L) (hst : okA st) (hM : okM σ) (hSc : Sc σ n xs) (hf : fetch y pc = some (.ldc2_w x)) (hs : stp y (.ldc2_w x) pc L st σ = some (.inl g)) (K : Nx D ad cy A p l e R s m args below meth c cells slots Q g) : Nx D ad cy A p l e R s m args below meth c cells slots Q (pc, L, st, σ) := by
  obtain ⟨hx, hb, hml, hown, hts, hK, hN, hap, hR, hcl, hsb, hX, hbl, hbA, hn⟩ := C
  intro H locs ls hP hS hl
  simp only [stp] at hs
  split at hs
  · rename_i v hv
    cases hs
    have h1 : mC y = 12 ∧ x = 18 ∧ v = 4294967295 := by
      unfold cstL at hv
      split at hv
      · rename_i h
        cases hv
        exact ⟨h.1, h.2, rfl⟩
      · cases hv
    obtain ⟨h1, h2, rfl⟩ := h1
    subst h2
    refine lv_ldc2 hx hb hown (hts _ (inTB ?_ rfl)) (fetch_dec hf rfl (by decide)) (K H locs ls hP hS hl)
    rw [h1]
    exact cstL_ok
  · cases hs
theorem so_dup (C : Cx D ad cy A b n xs y p R s m args c cells slots) (hL : okA L) (hst : okA st) (hM : okM σ) (hSc : Sc σ n xs) (hf : fetch y pc = some (.dup)) (hs : stp y (.dup) pc L st σ = some (.inl g)) (K : Nx D ad cy A p l e R s m args below meth c cells slots Q g) : Nx D ad cy A p l e R s m args below meth c cells slots Q (pc, L, st, σ) := by
  obtain ⟨hx, hb, hml, hown, hts, hK, hN, hap, hR, hcl, hsb, hX, hbl, hbA, hn⟩ := C
  intro H locs ls hP hS hl
  simp only [stp] at hs
  split at hs
  · split at hs
    · rename_i v r hc
      cases hs
      exact lv_dup hx hb (fetch_dec hf rfl (by decide)) (by rw [cv_cat ad (by rw [hc]; decide)]; exact hc) (K H locs ls hP hS hl)
    · cases hs
  · cases hs
theorem so_dup2 (C : Cx D ad cy A b n xs y p R s m args c cells slots) (hL : okA L) (hst : okA st) (hM : okM σ) (hSc : Sc σ n xs) (hf : fetch y pc = some (.dup2)) (hs : stp y (.dup2) pc L st σ = some (.inl g)) (K : Nx D ad cy A p l e R s m args below meth c cells slots Q g) : Nx D ad cy A p l e R s m args below meth c cells slots Q (pc, L, st, σ) := by
  obtain ⟨hx, hb, hml, hown, hts, hK, hN, hap, hR, hcl, hsb, hX, hbl, hbA, hn⟩ := C
  intro H locs ls hP hS hl
  simp only [stp] at hs
  split at hs
  · split at hs
    · rename_i u v r hc
      cases hs
      exact lv_dup2_11 hx hb (fetch_dec hf rfl (by decide)) (by rw [cv_cat ad (by rw [hc.1]; decide)]; exact hc.1) (by rw [cv_cat ad (by rw [hc.2]; decide)]; exact hc.2) (K H locs ls hP hS hl)
    · cases hs
  · cases hs
theorem so_pop (C : Cx D ad cy A b n xs y p R s m args c cells slots) (hL : okA L) (hst : okA st) (hM : okM σ) (hSc : Sc σ n xs) (hf : fetch y pc = some (.pop)) (hs : stp y (.pop) pc L st σ = some (.inl g)) (K : Nx D ad cy A p l e R s m args below meth c cells slots Q g) : Nx D ad cy A p l e R s m args below meth c cells slots Q (pc, L, st, σ) := by
  obtain ⟨hx, hb, hml, hown, hts, hK, hN, hap, hR, hcl, hsb, hX, hbl, hbA, hn⟩ := C
  intro H locs ls hP hS hl
  simp only [stp] at hs
  split at hs
  · split at hs
    · rename_i v r hc
      cases hs
      exact lv_pop hx hb (fetch_dec hf rfl (by decide)) (by rw [cv_cat ad (by rw [hc]; decide)]; exact hc) (K H locs ls hP hS hl)
    · cases hs
  · cases hs
theorem so_iadd (C : Cx D ad cy A b n xs y p R s m args c cells slots) (hL : okA L) (hst : okA st) (hM : okM σ) (hSc : Sc σ n xs) (hf : fetch y pc = some (.iadd)) (hs : stp y (.iadd) pc L st σ = some (.inl g)) (K : Nx D ad cy A p l e R s m args below meth c cells slots Q g) : Nx D ad cy A p l e R s m args below meth c cells slots Q (pc, L, st, σ) := by
  obtain ⟨hx, hb, hml, hown, hts, hK, hN, hap, hR, hcl, hsb, hX, hbl, hbA, hn⟩ := C
  intro H locs ls hP hS hl
  simp only [stp] at hs
  split at hs
  · rename_i v u r
    cases hs
    have e1 : Value.int (Int32.ofInt u + Int32.ofInt v) = cv ad (aI (wr (u + v))) := by
      show _ = Value.int (Int32.ofInt (wr (u + v)))
      rw [o32_wr, Int32.ofInt_add]
    refine lv_iadd hx hb (fetch_dec hf rfl (by decide)) ?_
    rw [e1]
    exact K H locs ls hP hS hl
  · cases hs
theorem so_isub (C : Cx D ad cy A b n xs y p R s m args c cells slots) (hL : okA L) (hst : okA st) (hM : okM σ) (hSc : Sc σ n xs) (hf : fetch y pc = some (.isub)) (hs : stp y (.isub) pc L st σ = some (.inl g)) (K : Nx D ad cy A p l e R s m args below meth c cells slots Q g) : Nx D ad cy A p l e R s m args below meth c cells slots Q (pc, L, st, σ) := by
  obtain ⟨hx, hb, hml, hown, hts, hK, hN, hap, hR, hcl, hsb, hX, hbl, hbA, hn⟩ := C
  intro H locs ls hP hS hl
  simp only [stp] at hs
  split at hs
  · rename_i v u r
    cases hs
    have e1 : Value.int (Int32.ofInt u - Int32.ofInt v) = cv ad (aI (wr (u - v))) := by
      show _ = Value.int (Int32.ofInt (wr (u - v)))
      rw [o32_wr, Int32.ofInt_sub]
    refine lv_isub hx hb (fetch_dec hf rfl (by decide)) ?_
    rw [e1]
    exact K H locs ls hP hS hl
  · cases hs
theorem so_imul (C : Cx D ad cy A b n xs y p R s m args c cells slots) (hL : okA L) (hst : okA st) (hM : okM σ) (hSc : Sc σ n xs) (hf : fetch y pc = some (.imul)) (hs : stp y (.imul) pc L st σ = some (.inl g)) (K : Nx D ad cy A p l e R s m args below meth c cells slots Q g) : Nx D ad cy A p l e R s m args below meth c cells slots Q (pc, L, st, σ) := by
  obtain ⟨hx, hb, hml, hown, hts, hK, hN, hap, hR, hcl, hsb, hX, hbl, hbA, hn⟩ := C
  intro H locs ls hP hS hl
  simp only [stp] at hs
  split at hs
  · rename_i v u r
    cases hs
    have e1 : Value.int (Int32.ofInt u * Int32.ofInt v) = cv ad (aI (wr (u * v))) := by
      show _ = Value.int (Int32.ofInt (wr (u * v)))
      rw [o32_wr, Int32.ofInt_mul]
    refine lv_imul hx hb (fetch_dec hf rfl (by decide)) ?_
    rw [e1]
    exact K H locs ls hP hS hl
  · cases hs
theorem so_iand (C : Cx D ad cy A b n xs y p R s m args c cells slots) (hL : okA L) (hst : okA st) (hM : okM σ) (hSc : Sc σ n xs) (hf : fetch y pc = some (.iand)) (hs : stp y (.iand) pc L st σ = some (.inl g)) (K : Nx D ad cy A p l e R s m args below meth c cells slots Q g) : Nx D ad cy A p l e R s m args below meth c cells slots Q (pc, L, st, σ) := by
  obtain ⟨hx, hb, hml, hown, hts, hK, hN, hap, hR, hcl, hsb, hX, hbl, hbA, hn⟩ := C
  intro H locs ls hP hS hl
  simp only [stp] at hs
  split at hs
  · rename_i v u r
    cases hs
    have e1 : Value.int (Int32.ofInt u &&& Int32.ofInt v) = cv ad (aI (ian u v)) := by
      show _ = Value.int (Int32.ofInt (ian u v))
      unfold ian
      rw [o32_i]
    refine lv_iand hx hb (fetch_dec hf rfl (by decide)) ?_
    rw [e1]
    exact K H locs ls hP hS hl
  · cases hs
theorem so_iushr (C : Cx D ad cy A b n xs y p R s m args c cells slots) (hL : okA L) (hst : okA st) (hM : okM σ) (hSc : Sc σ n xs) (hf : fetch y pc = some (.iushr)) (hs : stp y (.iushr) pc L st σ = some (.inl g)) (K : Nx D ad cy A p l e R s m args below meth c cells slots Q g) : Nx D ad cy A p l e R s m args below meth c cells slots Q (pc, L, st, σ) := by
  obtain ⟨hx, hb, hml, hown, hts, hK, hN, hap, hR, hcl, hsb, hX, hbl, hbA, hn⟩ := C
  intro H locs ls hP hS hl
  simp only [stp] at hs
  split at hs
  · rename_i v u r
    cases hs
    refine lv_iushr (v := Int32.ofInt (shr u v)) hx hb (fetch_dec hf rfl (by decide)) ?_ (K H locs ls hP hS hl)
    unfold shr
    rw [o32_i]
  · cases hs
theorem so_idiv (C : Cx D ad cy A b n xs y p R s m args c cells slots) (hL : okA L) (hst : okA st) (hM : okM σ) (hSc : Sc σ n xs) (hf : fetch y pc = some (.idiv)) (hs : stp y (.idiv) pc L st σ = some (.inl g)) (K : Nx D ad cy A p l e R s m args below meth c cells slots Q g) : Nx D ad cy A p l e R s m args below meth c cells slots Q (pc, L, st, σ) := by
  obtain ⟨hx, hb, hml, hown, hts, hK, hN, hap, hR, hcl, hsb, hX, hbl, hbA, hn⟩ := C
  intro H locs ls hP hS hl
  simp only [stp] at hs
  split at hs
  · rename_i v u r
    split at hs
    · rename_i hz
      cases hs
      have e1 : Value.int (Int32.ofInt u / Int32.ofInt v) = cv ad (aI (quo u v)) := by
        show _ = Value.int (Int32.ofInt (quo u v))
        unfold quo
        rw [o32_i]
      refine lv_idiv hx hb (fetch_dec hf rfl (by decide)) (fun q => hz ((o32_eq (okA_hd hst) okI_0).mp q)) ?_
      rw [e1]
      exact K H locs ls hP hS hl
    · cases hs
  · cases hs
theorem so_irem (C : Cx D ad cy A b n xs y p R s m args c cells slots) (hL : okA L) (hst : okA st) (hM : okM σ) (hSc : Sc σ n xs) (hf : fetch y pc = some (.irem)) (hs : stp y (.irem) pc L st σ = some (.inl g)) (K : Nx D ad cy A p l e R s m args below meth c cells slots Q g) : Nx D ad cy A p l e R s m args below meth c cells slots Q (pc, L, st, σ) := by
  obtain ⟨hx, hb, hml, hown, hts, hK, hN, hap, hR, hcl, hsb, hX, hbl, hbA, hn⟩ := C
  intro H locs ls hP hS hl
  simp only [stp] at hs
  split at hs
  · rename_i v u r
    split at hs
    · rename_i hz
      cases hs
      have e1 : Value.int (Int32.ofInt u - Int32.ofInt u / Int32.ofInt v * Int32.ofInt v) = cv ad (aI (rem u v)) := by
        show _ = Value.int (Int32.ofInt (rem u v))
        unfold rem
        rw [o32_i]
      refine lv_irem hx hb (fetch_dec hf rfl (by decide)) (fun q => hz ((o32_eq (okA_hd hst) okI_0).mp q)) ?_
      rw [e1]
      exact K H locs ls hP hS hl
    · cases hs
  · cases hs
theorem so_ineg (C : Cx D ad cy A b n xs y p R s m args c cells slots) (hL : okA L) (hst : okA st) (hM : okM σ) (hSc : Sc σ n xs) (hf : fetch y pc = some (.ineg)) (hs : stp y (.ineg) pc L st σ = some (.inl g)) (K : Nx D ad cy A p l e R s m args below meth c cells slots Q g) : Nx D ad cy A p l e R s m args below meth c cells slots Q (pc, L, st, σ) := by
  obtain ⟨hx, hb, hml, hown, hts, hK, hN, hap, hR, hcl, hsb, hX, hbl, hbA, hn⟩ := C
  intro H locs ls hP hS hl
  simp only [stp] at hs
  split at hs
  · rename_i u r
    cases hs
    have e1 : Value.int (-Int32.ofInt u) = cv ad (aI (wr (-u))) := by
      show _ = Value.int (Int32.ofInt (wr (-u)))
      rw [o32_wr, Int32.ofInt_neg]
    refine lv_ineg hx hb (fetch_dec hf rfl (by decide)) ?_
    rw [e1]
    exact K H locs ls hP hS hl
  · cases hs
theorem so_i2b (C : Cx D ad cy A b n xs y p R s m args c cells slots) (hL : okA L) (hst : okA st) (hM : okM σ) (hSc : Sc σ n xs) (hf : fetch y pc = some (.i2b)) (hs : stp y (.i2b) pc L st σ = some (.inl g)) (K : Nx D ad cy A p l e R s m args below meth c cells slots Q g) : Nx D ad cy A p l e R s m args below meth c cells slots Q (pc, L, st, σ) := by
  obtain ⟨hx, hb, hml, hown, hts, hK, hN, hap, hR, hcl, hsb, hX, hbl, hbA, hn⟩ := C
  intro H locs ls hP hS hl
  simp only [stp] at hs
  split at hs
  · rename_i u r
    cases hs
    refine lv_i2b (v := Int32.ofInt (tob u)) hx hb (fetch_dec hf rfl (by decide)) ?_ (K H locs ls hP hS hl)
    unfold tob
    rw [o32_i]
  · cases hs
theorem so_i2s (C : Cx D ad cy A b n xs y p R s m args c cells slots) (hL : okA L) (hst : okA st) (hM : okM σ) (hSc : Sc σ n xs) (hf : fetch y pc = some (.i2s)) (hs : stp y (.i2s) pc L st σ = some (.inl g)) (K : Nx D ad cy A p l e R s m args below meth c cells slots Q g) : Nx D ad cy A p l e R s m args below meth c cells slots Q (pc, L, st, σ) := by
  obtain ⟨hx, hb, hml, hown, hts, hK, hN, hap, hR, hcl, hsb, hX, hbl, hbA, hn⟩ := C
  intro H locs ls hP hS hl
  simp only [stp] at hs
  split at hs
  · rename_i u r
    cases hs
    refine lv_i2s (v := Int32.ofInt (tos u)) hx hb (fetch_dec hf rfl (by decide)) ?_ (K H locs ls hP hS hl)
    unfold tos
    rw [o32_i]
  · cases hs
theorem so_i2l (C : Cx D ad cy A b n xs y p R s m args c cells slots) (hL : okA L) (hst : okA st) (hM : okM σ) (hSc : Sc σ n xs) (hf : fetch y pc = some (.i2l)) (hs : stp y (.i2l) pc L st σ = some (.inl g)) (K : Nx D ad cy A p l e R s m args below meth c cells slots Q g) : Nx D ad cy A p l e R s m args below meth c cells slots Q (pc, L, st, σ) := by
  obtain ⟨hx, hb, hml, hown, hts, hK, hN, hap, hR, hcl, hsb, hX, hbl, hbA, hn⟩ := C
  intro H locs ls hP hS hl
  simp only [stp] at hs
  split at hs
  · cases hs
    exact lv_i2l hx hb (fetch_dec hf rfl (by decide)) rfl (K H locs ls hP hS hl)
  · cases hs
theorem so_l2i (C : Cx D ad cy A b n xs y p R s m args c cells slots) (hL : okA L) (hst : okA st) (hM : okM σ) (hSc : Sc σ n xs) (hf : fetch y pc = some (.l2i)) (hs : stp y (.l2i) pc L st σ = some (.inl g)) (K : Nx D ad cy A p l e R s m args below meth c cells slots Q g) : Nx D ad cy A p l e R s m args below meth c cells slots Q (pc, L, st, σ) := by
  obtain ⟨hx, hb, hml, hown, hts, hK, hN, hap, hR, hcl, hsb, hX, hbl, hbA, hn⟩ := C
  intro H locs ls hP hS hl
  simp only [stp] at hs
  split at hs
  · rename_i u r
    cases hs
    refine lv_l2i (v := Int32.ofInt (toi u)) hx hb (fetch_dec hf rfl (by decide)) ?_ (K H locs ls hP hS hl)
    unfold toi
    rw [o32_i]
  · cases hs
theorem so_ladd (C : Cx D ad cy A b n xs y p R s m args c cells slots) (hL : okA L) (hst : okA st) (hM : okM σ) (hSc : Sc σ n xs) (hf : fetch y pc = some (.ladd)) (hs : stp y (.ladd) pc L st σ = some (.inl g)) (K : Nx D ad cy A p l e R s m args below meth c cells slots Q g) : Nx D ad cy A p l e R s m args below meth c cells slots Q (pc, L, st, σ) := by
  obtain ⟨hx, hb, hml, hown, hts, hK, hN, hap, hR, hcl, hsb, hX, hbl, hbA, hn⟩ := C
  intro H locs ls hP hS hl
  simp only [stp] at hs
  split at hs
  · cases hs
    exact lv_ladd hx hb (fetch_dec hf rfl (by decide)) (K H locs ls hP hS hl)
  · cases hs
theorem so_land (C : Cx D ad cy A b n xs y p R s m args c cells slots) (hL : okA L) (hst : okA st) (hM : okM σ) (hSc : Sc σ n xs) (hf : fetch y pc = some (.land)) (hs : stp y (.land) pc L st σ = some (.inl g)) (K : Nx D ad cy A p l e R s m args below meth c cells slots Q g) : Nx D ad cy A p l e R s m args below meth c cells slots Q (pc, L, st, σ) := by
  obtain ⟨hx, hb, hml, hown, hts, hK, hN, hap, hR, hcl, hsb, hX, hbl, hbA, hn⟩ := C
  intro H locs ls hP hS hl
  simp only [stp] at hs
  split at hs
  · cases hs
    exact lv_land hx hb (fetch_dec hf rfl (by decide)) (K H locs ls hP hS hl)
  · cases hs
theorem so_lor (C : Cx D ad cy A b n xs y p R s m args c cells slots) (hL : okA L) (hst : okA st) (hM : okM σ) (hSc : Sc σ n xs) (hf : fetch y pc = some (.lor)) (hs : stp y (.lor) pc L st σ = some (.inl g)) (K : Nx D ad cy A p l e R s m args below meth c cells slots Q g) : Nx D ad cy A p l e R s m args below meth c cells slots Q (pc, L, st, σ) := by
  obtain ⟨hx, hb, hml, hown, hts, hK, hN, hap, hR, hcl, hsb, hX, hbl, hbA, hn⟩ := C
  intro H locs ls hP hS hl
  simp only [stp] at hs
  split at hs
  · cases hs
    exact lv_lor hx hb (fetch_dec hf rfl (by decide)) (K H locs ls hP hS hl)
  · cases hs
theorem so_lshl (C : Cx D ad cy A b n xs y p R s m args c cells slots) (hL : okA L) (hst : okA st) (hM : okM σ) (hSc : Sc σ n xs) (hf : fetch y pc = some (.lshl)) (hs : stp y (.lshl) pc L st σ = some (.inl g)) (K : Nx D ad cy A p l e R s m args below meth c cells slots Q g) : Nx D ad cy A p l e R s m args below meth c cells slots Q (pc, L, st, σ) := by
  obtain ⟨hx, hb, hml, hown, hts, hK, hN, hap, hR, hcl, hsb, hX, hbl, hbA, hn⟩ := C
  intro H locs ls hP hS hl
  simp only [stp] at hs
  split at hs
  · cases hs
    exact lv_lshl hx hb (fetch_dec hf rfl (by decide)) rfl (K H locs ls hP hS hl)
  · cases hs
theorem so_lcmp (C : Cx D ad cy A b n xs y p R s m args c cells slots) (hL : okA L) (hst : okA st) (hM : okM σ) (hSc : Sc σ n xs) (hf : fetch y pc = some (.lcmp)) (hs : stp y (.lcmp) pc L st σ = some (.inl g)) (K : Nx D ad cy A p l e R s m args below meth c cells slots Q g) : Nx D ad cy A p l e R s m args below meth c cells slots Q (pc, L, st, σ) := by
  obtain ⟨hx, hb, hml, hown, hts, hK, hN, hap, hR, hcl, hsb, hX, hbl, hbA, hn⟩ := C
  intro H locs ls hP hS hl
  simp only [stp] at hs
  split at hs
  · rename_i v u r
    cases hs
    have e1 : Value.int (lg_cmp u v) = cv ad (aI (lg_cmp u v).toInt) := by
      show _ = Value.int (Int32.ofInt (lg_cmp u v).toInt)
      rw [o32_i]
    refine W.lcmp hx hb (fetch_dec hf rfl (by decide)) ?_
    rw [e1]
    exact K H locs ls hP hS hl
  · cases hs
theorem fs_at {ad : Nat → Int → Nat} {σ : aM} {t : Nat} {i : Int} {k : Nat} (hk : k < cS (fC t)) : ((List.range (cS (fC t))).map (fun k => cv ad (slv σ t i k)))[k]? = some (cv ad (slv σ t i k)) := by
  rw [List.getElem?_map, List.getElem?_range hk]
  rfl
theorem cwTB {c : Nat} (hc : c < 10) : ∀ w ∈ u_ws (cN c) (cT c) (cS c), w ∈ TB := by
  intro w hw
  refine inTB (cW_in c hc w hw) ?_
  obtain ⟨k, -, rfl⟩ := List.mem_map.mp hw
  unfold u_lay
  split <;> rfl
theorem so_get {t : Nat} {i : Int} {r : List AV} {x c' k : Nat} (C : Cx D ad cy A b n xs y p R s m args c cells slots) (hok : okv (aR t i)) (hf : fetch y pc = some (.getfield x)) (hfl : fld (mC y) x = some (c', k)) (hc : fC t = c') {v : AV} (hv : v = slv σ t i k) (K : Nx D ad cy A p l e R s m args below meth c cells slots Q (pc + 3, L, v :: r, σ)) : Nx D ad cy A p l e R s m args below meth c cells slots Q (pc, L, aR t i :: r, σ) := by
  obtain ⟨hx, hb, hml, hown, hts, hK, hN, hap, hR, hcl, hsb, hX, hbl, hbA, hn⟩ := C
  intro H locs ls hP hS hl
  obtain ⟨h10, hk, hw⟩ := fld_ok hfl
  have hr := okR_of hok (ne34 hc hfl)
  subst hc
  have he : (WS ad cy σ)[ps t i]? = some (ad t i, .inr (fC t, (List.range (cS (fC t))).map (fun k => cv ad (slv σ t i k)))) := by rw [WS_at hr, cell_obj h10]
  exact va_get (D := D) (C := cN (fC t)) (T := cT (fC t)) (N := cS (fC t)) hx hb hts (cwTB h10) hown hK hP (ps t i) he (vw_at _ h10) k hk (hts _ (inTB hw rfl)) (fun _ h9 => h9) (fs_at hk) (fetch_dec hf rfl (by decide)) (by rw [← hv]; exact K H locs ls hP hS hl)
theorem so_getfield {x : Nat} (C : Cx D ad cy A b n xs y p R s m args c cells slots) (hL : okA L) (hst : okA st) (hM : okM σ) (hSc : Sc σ n xs) (hf : fetch y pc = some (.getfield x)) (hs : stp y (.getfield x) pc L st σ = some (.inl g)) (K : Nx D ad cy A p l e R s m args below meth c cells slots Q g) : Nx D ad cy A p l e R s m args below meth c cells slots Q (pc, L, st, σ) := by
  simp only [stp] at hs
  split at hs
  · split at hs
    · rename_i hfl
      split at hs
      · rename_i hc
        split at hs
        · rename_i h0
          cases hs
          exact so_get C (okA_hd hst) hf hfl hc (by unfold slv; rw [hc, h0]; rfl) K
        · rename_i h0
          cases hs
          exact so_get C (okA_hd hst) hf hfl hc (by unfold slv; rw [hc, h0]; rfl) K
        · rename_i h0
          cases hs
          exact so_get C (okA_hd hst) hf hfl hc (by unfold slv; rw [hc, h0]; rfl) K
        · rename_i h0
          cases hs
          exact so_get C (okA_hd hst) hf hfl hc (by unfold slv; rw [hc, h0]; rfl) K
        · cases hs
      · cases hs
    · cases hs
  · cases hs
theorem cell_uI {ad : Nat → Int → Nat} {cy : Nat → ClassId} {σ : aM} {t : Nat} {i j v : Int} (t' : Nat) (i' : Int) (h : ¬ (t' = t ∧ i' = i)) : cellOf ad cy (uI σ t i j v) t' i' = cellOf ad cy σ t' i' :=
  cellOf_eq (fun j' => by rw [gI_uI, if_neg (fun q => h ⟨q.1, q.2.1⟩)]) (fun _ => rfl) (fun _ _ => rfl)
theorem slv_uI {ad : Nat → Int → Nat} {σ : aM} {t : Nat} {i v : Int} {k : Nat} (hk : k < cS (fC t)) (hs : sK (fC t) k = 0 ∨ sK (fC t) k = 1) : (List.range (cS (fC t))).map (fun k' => cv ad (slv (uI σ t i (k : Int) v) t i k')) = ((List.range (cS (fC t))).map (fun k' => cv ad (slv σ t i k'))).set k (cv ad (aI v)) := by
  apply List.ext_getElem?
  intro j
  by_cases hj : j = k
  · subst hj
    rw [fs_at hk, List.getElem?_set_self (by rw [List.length_map, List.length_range]; exact hk)]
    have e : slv (uI σ t i (j : Int) v) t i j = aI v := by
      unfold slv
      rcases hs with h | h <;> rw [h] <;> simp only [gI_uI, and_self, if_true]
    rw [e]
  · rw [List.getElem?_set_ne (Ne.symm hj)]
    by_cases hl : j < cS (fC t)
    · rw [fs_at hl, fs_at hl]
      have e : slv (uI σ t i (k : Int) v) t i j = slv σ t i j := by
        unfold slv
        rw [gI_uI, if_neg (fun q => hj (by omega))]
      rw [e]
    · rw [List.getElem?_eq_none (by simp; omega), List.getElem?_eq_none (by simp; omega)]
theorem narB {v : Int} (h : isB v = true) : narrow .boolean (.int (Int32.ofInt v)) = .int (Int32.ofInt v) := by
  unfold isB at h
  simp only [Bool.or_eq_true, decide_eq_true_eq] at h
  rcases h with rfl | rfl <;> rfl
theorem fitB {v : Int} (h : isB v = true) : fits .boolean (.int (Int32.ofInt v)) = true := by
  unfold isB at h
  simp only [Bool.or_eq_true, decide_eq_true_eq] at h
  rcases h with rfl | rfl <;> rfl
theorem so_put {t : Nat} {i v : Int} {r : List AV} {x c' k : Nat} (C : Cx D ad cy A b n xs y p R s m args c cells slots) (hok : okv (aR t i)) (hf : fetch y pc = some (.putfield x)) (hfl : fld (mC y) x = some (c', k)) (hc : fC t = c') (hv : sK c' k = 0 ∨ (sK c' k = 1 ∧ isB v = true)) (K : Nx D ad cy A p l e R s m args below meth c cells slots Q (pc + 3, L, r, uI σ t i (k : Int) v)) : Nx D ad cy A p l e R s m args below meth c cells slots Q (pc, L, aI v :: aR t i :: r, σ) := by
  obtain ⟨hx, hb, hml, hown, hts, hK, hN, hap, hR, hcl, hsb, hX, hbl, hbA, hn⟩ := C
  intro H locs ls hP hS hl
  obtain ⟨h10, hk, hw⟩ := fld_ok hfl
  have hr := okR_of hok (ne34 hc hfl)
  subst hc
  have he : (WS ad cy σ)[ps t i]? = some (ad t i, .inr (fC t, (List.range (cS (fC t))).map (fun k => cv ad (slv σ t i k)))) := by rw [WS_at hr, cell_obj h10]
  have key : (sK (fC t) k = 0 ∨ sK (fC t) k = 1) → (cT (fC t) k).2.2.2 = false → ∀ (ty : FieldType), parseFieldDescriptor (cT (fC t) k).2.2.1 = some ty → narrow ty (cv ad (aI v)) = cv ad (aI v) → fits ty (cv ad (aI v)) = true → W p l e R s m args below meth c H locs cells slots Q (F0 m pc ls (cv ad (aI v) :: cv ad (aR t i) :: r.map (cv ad))) := by
    intro hs01 hfin ty hty hnar hfit
    refine va_put (D := D) (C := cN (fC t)) (T := cT (fC t)) (N := cS (fC t)) hx hb hts (cwTB h10) (cY (fC t)) (cY_ok _ h10) (cN_ap _ h10) hown hK hP (WS_D hap) hS (ps t i) he (vw_at _ h10) k hk (hts _ (inTB hw rfl)) (fun _ h9 => h9) hfin hty hnar hfit (by rw [List.length_map, List.length_range]; exact hk) (fetch_dec hf rfl (by decide)) (fun H1 locs1 hP1 hD1 hS1 => ?_)
    refine K H1 locs1 ls ?_ hS1 hl
    have e := WS_set (ad := ad) (cy := cy) (σ := σ) (σ' := uI σ t i (k : Int) v) hr (fun t' i' _ h => cell_uI t' i' h)
    show va_P D vwCl (WS ad cy (uI σ t i (k : Int) v)) H1
    rw [← e, cell_obj h10, slv_uI hk hs01]
    exact hP1
  rcases slot_ok _ h10 _ hk with ⟨q0, q1, q2⟩ | ⟨q0, q1, q2⟩ | q0 | q0
  · exact key (Or.inl q0) q1 _ q2 rfl rfl
  · rcases hv with q | ⟨-, hB⟩
    · rw [q0] at q; cases q
    · exact key (Or.inr q0) q1 _ q2 (narB hB) (fitB hB)
  · rw [q0] at hv; rcases hv with q | ⟨q, -⟩ <;> cases q
  · rw [q0] at hv; rcases hv with q | ⟨q, -⟩ <;> cases q
theorem so_putfield {x : Nat} (C : Cx D ad cy A b n xs y p R s m args c cells slots) (hL : okA L) (hst : okA st) (hM : okM σ) (hSc : Sc σ n xs) (hf : fetch y pc = some (.putfield x)) (hs : stp y (.putfield x) pc L st σ = some (.inl g)) (K : Nx D ad cy A p l e R s m args below meth c cells slots Q g) : Nx D ad cy A p l e R s m args below meth c cells slots Q (pc, L, st, σ) := by
  simp only [stp] at hs
  split at hs
  · split at hs
    · rename_i hfl
      split at hs
      · rename_i hc
        split at hs
        · rename_i h0
          cases hs
          exact so_put C (okA_hd (okA_tl hst)) hf hfl hc (Or.inl h0) K
        · rename_i h0
          split at hs
          · rename_i hB
            cases hs
            exact so_put C (okA_hd (okA_tl hst)) hf hfl hc (Or.inr ⟨h0, hB⟩) K
          · cases hs
        · cases hs
      · cases hs
    · cases hs
  · cases hs
theorem ar_lt {t : Nat} (h : okR t 0 ∨ t < 34) : t ≠ 34 := by
  rcases h with h | h
  · have := h.1; omega
  · omega
theorem aLen_r {σ : aM} {t : Nat} {i : Int} (h : okR t i) : aLen σ t = (fL t : Int) := aLen_n (by have := h.1; omega) rfl
theorem so_iald {t : Nat} {i a : Int} {r : List AV} (C : Cx D ad cy A b n xs y p R s m args c cells slots) (hM : okM σ) (hSc : Sc σ n xs) (hok : okv (aR t i)) (ha : okI a) (hf : fetch y pc = some .iaload) (hc : fT t = 0 ∧ (0 ≤ a ∧ a < aLen σ t)) (K : Nx D ad cy A p l e R s m args below meth c cells slots Q (pc + 1, L, aI (gI σ t i a) :: r, σ)) : Nx D ad cy A p l e R s m args below meth c cells slots Q (pc, L, aI a :: aR t i :: r, σ) := by
  obtain ⟨hx, hb, hml, hown, hts, hK, hN, hap, hR, hcl, hsb, hX, hbl, hbA, hn⟩ := C
  intro H locs ls hP hS hl
  obtain ⟨hT, h0, h1⟩ := hc
  have e0 : ((a.toNat : Nat) : Int) = a := Int.toNat_of_nonneg h0
  rcases hok t i rfl with hr | ⟨rfl, rfl⟩
  · rw [aLen_r hr] at h1
    have he : (WS ad cy σ)[ps t i]? = some (ad t i, .inl (cy 0, fL t, .inl (fun j => Int32.ofInt (gI σ t i (j : Int))))) := by rw [WS_at hr, cell_int hT]
    refine va_iald hx hb hK hP (ps t i) 0 he rfl (o32_in ha h0 h1) (fetch_dec hf rfl (by decide)) ?_
    rw [o32_cl ha, e0]
    exact K H locs ls hP hS hl
  · have h1 : a < (n : Int) := by
      have e1 : aLen σ 34 = gI σ 34 0 (-1) := rfl
      rw [e1, hSc.1] at h1
      exact h1
    have e2 := hSc.2 a.toNat (by omega)
    rw [e0] at e2
    have e3 : Value.int (xs (Int32.ofInt a).toNatClampNeg) = cv ad (aI (gI σ 34 0 a)) := by
      show _ = Value.int (Int32.ofInt (gI σ 34 0 a))
      rw [e2, o32_i, o32_cl ha]
    show W p l e R s m args below meth c H locs cells slots Q (F0 m pc ls (.int (Int32.ofInt a) :: .ref (ad 34 0) :: r.map (cv ad)))
    rw [hsb]
    refine va_sld hx hb hX hbl hbA hS (o32_in ha h0 h1) (fetch_dec hf rfl (by decide)) ?_
    rw [e3]
    exact K H locs ls hP hS hl
theorem so_iaload (C : Cx D ad cy A b n xs y p R s m args c cells slots) (hL : okA L) (hst : okA st) (hM : okM σ) (hSc : Sc σ n xs) (hf : fetch y pc = some (.iaload)) (hs : stp y (.iaload) pc L st σ = some (.inl g)) (K : Nx D ad cy A p l e R s m args below meth c cells slots Q g) : Nx D ad cy A p l e R s m args below meth c cells slots Q (pc, L, st, σ) := by
  simp only [stp] at hs
  split at hs
  · unfold ldA at hs
    split at hs
    · rename_i hc
      cases hs
      exact so_iald C hM hSc (okA_hd (okA_tl hst)) (okA_hd hst) hf hc K
    · cases hs
  · cases hs
theorem so_bald {t : Nat} {i a : Int} {r : List AV} (C : Cx D ad cy A b n xs y p R s m args c cells slots) (hok : okR t i) (ha : okI a) (hf : fetch y pc = some .baload) (hc : fT t = 2 ∧ (0 ≤ a ∧ a < aLen σ t)) (K : Nx D ad cy A p l e R s m args below meth c cells slots Q (pc + 1, L, aI (gI σ t i a) :: r, σ)) : Nx D ad cy A p l e R s m args below meth c cells slots Q (pc, L, aI a :: aR t i :: r, σ) := by
  obtain ⟨hx, hb, hml, hown, hts, hK, hN, hap, hR, hcl, hsb, hX, hbl, hbA, hn⟩ := C
  intro H locs ls hP hS hl
  obtain ⟨hT, h0, h1⟩ := hc
  have e0 : ((a.toNat : Nat) : Int) = a := Int.toNat_of_nonneg h0
  rw [aLen_r hok] at h1
  have he : (WS ad cy σ)[ps t i]? = some (ad t i, .inl (cy 2, fL t, .inl (fun j => Int32.ofInt (gI σ t i (j : Int))))) := by rw [WS_at hok, cell_bool hT]
  refine va_zald hx hb hK hP (ps t i) 2 he rfl (o32_in ha h0 h1) (fetch_dec hf rfl (by decide)) ?_
  rw [o32_cl ha, e0]
  exact K H locs ls hP hS hl
theorem so_lald {t : Nat} {i a : Int} {r : List AV} (C : Cx D ad cy A b n xs y p R s m args c cells slots) (hok : okR t i) (ha : okI a) (hf : fetch y pc = some .laload) (hc : fT t = 1 ∧ (0 ≤ a ∧ a < aLen σ t)) (K : Nx D ad cy A p l e R s m args below meth c cells slots Q (pc + 1, L, aJ (gL σ t i a) :: r, σ)) : Nx D ad cy A p l e R s m args below meth c cells slots Q (pc, L, aI a :: aR t i :: r, σ) := by
  obtain ⟨hx, hb, hml, hown, hts, hK, hN, hap, hR, hcl, hsb, hX, hbl, hbA, hn⟩ := C
  intro H locs ls hP hS hl
  obtain ⟨hT, h0, h1⟩ := hc
  have e0 : ((a.toNat : Nat) : Int) = a := Int.toNat_of_nonneg h0
  rw [aLen_r hok] at h1
  have he : (WS ad cy σ)[ps t i]? = some (ad t i, .inl (cy 1, fL t, .inr (.inl (fun j => gL σ t i (j : Int))))) := by rw [WS_at hok, cell_long hT]
  refine va_lald hx hb hK hP (ps t i) 1 he rfl (o32_in ha h0 h1) (fetch_dec hf rfl (by decide)) ?_
  rw [o32_cl ha, e0]
  exact K H locs ls hP hS hl
theorem n34 {t k : Nat} (h : fT t = k) (hk : k ≠ 0) : t ≠ 34 := by
  rintro rfl
  exact hk h.symm
theorem so_aald {t : Nat} {i a : Int} {r : List AV} (C : Cx D ad cy A b n xs y p R s m args c cells slots) (hok : okR t i) (ha : okI a) (hf : fetch y pc = some .aaload) (hc : 3 ≤ fT t ∧ fT t ≤ 5 ∧ (0 ≤ a ∧ a < aLen σ t)) (K : Nx D ad cy A p l e R s m args below meth c cells slots Q (pc + 1, L, aQ (aref σ t i a) :: r, σ)) : Nx D ad cy A p l e R s m args below meth c cells slots Q (pc, L, aI a :: aR t i :: r, σ) := by
  obtain ⟨hx, hb, hml, hown, hts, hK, hN, hap, hR, hcl, hsb, hX, hbl, hbA, hn⟩ := C
  intro H locs ls hP hS hl
  obtain ⟨hT, hT2, h0, h1⟩ := hc
  have e0 : ((a.toNat : Nat) : Int) = a := Int.toNat_of_nonneg h0
  rw [aLen_r hok] at h1
  have he : (WS ad cy σ)[ps t i]? = some (ad t i, .inl (cy (if fT t = 3 then 3 else 4), fL t, .inr (.inr (.inr (.inr (fun j => (aref σ t i (j : Int)).map (fun q => ad q.1 q.2))))))) := by rw [WS_at hok, cell_ref ⟨hT, hT2⟩]
  by_cases h3 : fT t = 3
  · rw [if_pos h3] at he
    refine va_aldq (C := "UncrossedBook$Shelf") hx hb hK hP (ps t i) 3 he rfl (o32_in ha h0 h1) (fetch_dec hf rfl (by decide)) ?_
    rw [o32_cl ha, e0]
    exact K H locs ls hP hS hl
  · rw [if_neg h3] at he
    refine va_aldq (C := "UncrossedBook$Order") hx hb hK hP (ps t i) 4 he rfl (o32_in ha h0 h1) (fetch_dec hf rfl (by decide)) ?_
    rw [o32_cl ha, e0]
    exact K H locs ls hP hS hl
theorem so_baload (C : Cx D ad cy A b n xs y p R s m args c cells slots) (hL : okA L) (hst : okA st) (hM : okM σ) (hSc : Sc σ n xs) (hf : fetch y pc = some (.baload)) (hs : stp y (.baload) pc L st σ = some (.inl g)) (K : Nx D ad cy A p l e R s m args below meth c cells slots Q g) : Nx D ad cy A p l e R s m args below meth c cells slots Q (pc, L, st, σ) := by
  simp only [stp] at hs
  split at hs
  · unfold ldA at hs
    split at hs
    · rename_i hc
      cases hs
      exact so_bald C (okR_of (okA_hd (okA_tl hst)) (n34 hc.1 (by decide))) (okA_hd hst) hf hc K
    · cases hs
  · cases hs
theorem so_laload (C : Cx D ad cy A b n xs y p R s m args c cells slots) (hL : okA L) (hst : okA st) (hM : okM σ) (hSc : Sc σ n xs) (hf : fetch y pc = some (.laload)) (hs : stp y (.laload) pc L st σ = some (.inl g)) (K : Nx D ad cy A p l e R s m args below meth c cells slots Q g) : Nx D ad cy A p l e R s m args below meth c cells slots Q (pc, L, st, σ) := by
  simp only [stp] at hs
  split at hs
  · unfold ldA at hs
    split at hs
    · rename_i hc
      cases hs
      exact so_lald C (okR_of (okA_hd (okA_tl hst)) (n34 hc.1 (by decide))) (okA_hd hst) hf hc K
    · cases hs
  · cases hs
theorem so_aaload (C : Cx D ad cy A b n xs y p R s m args c cells slots) (hL : okA L) (hst : okA st) (hM : okM σ) (hSc : Sc σ n xs) (hf : fetch y pc = some (.aaload)) (hs : stp y (.aaload) pc L st σ = some (.inl g)) (K : Nx D ad cy A p l e R s m args below meth c cells slots Q g) : Nx D ad cy A p l e R s m args below meth c cells slots Q (pc, L, st, σ) := by
  simp only [stp] at hs
  split at hs
  · split at hs
    · rename_i hc
      cases hs
      exact so_aald C (okR_of (okA_hd (okA_tl hst)) (n34 rfl (by have := hc.1; omega))) (okA_hd hst) hf hc K
    · cases hs
  · cases hs
theorem upd_uI {σ : aM} {t : Nat} {i a v : Int} (h0 : 0 ≤ a) : (fun j : Nat => Int32.ofInt (gI (uI σ t i a v) t i (j : Int))) = upd (fun j : Nat => Int32.ofInt (gI σ t i (j : Int))) a.toNat (Int32.ofInt v) := by
  funext j
  unfold upd
  rw [gI_uI]
  by_cases hj : j = a.toNat
  · rw [if_pos hj, if_pos ⟨rfl, rfl, by omega⟩]
  · rw [if_neg hj, if_neg (fun q => hj (by have := q.2.2; omega))]
theorem so_iast {t : Nat} {i a v : Int} {r : List AV} (C : Cx D ad cy A b n xs y p R s m args c cells slots) (hok : okR t i) (ha : okI a) (hf : fetch y pc = some .iastore) (hc : fT t = 0 ∧ (0 ≤ a ∧ a < aLen σ t)) (K : Nx D ad cy A p l e R s m args below meth c cells slots Q (pc + 1, L, r, uI σ t i a v)) : Nx D ad cy A p l e R s m args below meth c cells slots Q (pc, L, aI v :: aI a :: aR t i :: r, σ) := by
  obtain ⟨hx, hb, hml, hown, hts, hK, hN, hap, hR, hcl, hsb, hX, hbl, hbA, hn⟩ := C
  intro H locs ls hP hS hl
  obtain ⟨hT, h0, h1⟩ := hc
  rw [aLen_r hok] at h1
  have he : (WS ad cy σ)[ps t i]? = some (ad t i, .inl (cy 0, fL t, .inl (fun j => Int32.ofInt (gI σ t i (j : Int))))) := by rw [WS_at hok, cell_int hT]
  refine va_iast hx hb hK hP (WS_D hap) hS (ps t i) 0 he rfl (o32_in ha h0 h1) (fetch_dec hf rfl (by decide)) (fun H1 locs1 hP1 hD1 hS1 => ?_)
  refine K H1 locs1 ls ?_ hS1 hl
  have e := WS_set (ad := ad) (cy := cy) (σ := σ) (σ' := uI σ t i a v) hok (fun t' i' _ h => cell_uI t' i' h)
  show va_P D vwCl (WS ad cy (uI σ t i a v)) H1
  rw [← e, cell_int hT, upd_uI h0, ← o32_cl ha]
  exact hP1
theorem so_bast {t : Nat} {i a v : Int} {r : List AV} (C : Cx D ad cy A b n xs y p R s m args c cells slots) (hok : okR t i) (ha : okI a) (hB : isB v = true) (hf : fetch y pc = some .bastore) (hc : fT t = 2 ∧ (0 ≤ a ∧ a < aLen σ t)) (K : Nx D ad cy A p l e R s m args below meth c cells slots Q (pc + 1, L, r, uI σ t i a v)) : Nx D ad cy A p l e R s m args below meth c cells slots Q (pc, L, aI v :: aI a :: aR t i :: r, σ) := by
  obtain ⟨hx, hb, hml, hown, hts, hK, hN, hap, hR, hcl, hsb, hX, hbl, hbA, hn⟩ := C
  intro H locs ls hP hS hl
  obtain ⟨hT, h0, h1⟩ := hc
  rw [aLen_r hok] at h1
  have he : (WS ad cy σ)[ps t i]? = some (ad t i, .inl (cy 2, fL t, .inl (fun j => Int32.ofInt (gI σ t i (j : Int))))) := by rw [WS_at hok, cell_bool hT]
  refine va_zast hx hb hK hP (WS_D hap) hS (ps t i) 2 he rfl (o32_in ha h0 h1) (fetch_dec hf rfl (by decide)) (fun H1 locs1 hP1 hD1 hS1 => ?_)
  refine K H1 locs1 ls ?_ hS1 hl
  have e := WS_set (ad := ad) (cy := cy) (σ := σ) (σ' := uI σ t i a v) hok (fun t' i' _ h => cell_uI t' i' h)
  show va_P D vwCl (WS ad cy (uI σ t i a v)) H1
  have e2 : vp_nar .boolean (Int32.ofInt v) = Int32.ofInt v := by
    unfold vp_nar
    rw [narB hB]
  rw [← e, cell_bool hT, upd_uI h0, ← o32_cl ha]
  rw [e2] at hP1
  exact hP1
theorem so_last {t : Nat} {i a : Int} {v : Int64} {r : List AV} (C : Cx D ad cy A b n xs y p R s m args c cells slots) (hok : okR t i) (ha : okI a) (hf : fetch y pc = some .lastore) (hc : fT t = 1 ∧ (0 ≤ a ∧ a < aLen σ t)) (K : Nx D ad cy A p l e R s m args below meth c cells slots Q (pc + 1, L, r, uL σ t i a v)) : Nx D ad cy A p l e R s m args below meth c cells slots Q (pc, L, aJ v :: aI a :: aR t i :: r, σ) := by
  obtain ⟨hx, hb, hml, hown, hts, hK, hN, hap, hR, hcl, hsb, hX, hbl, hbA, hn⟩ := C
  intro H locs ls hP hS hl
  obtain ⟨hT, h0, h1⟩ := hc
  rw [aLen_r hok] at h1
  have he : (WS ad cy σ)[ps t i]? = some (ad t i, .inl (cy 1, fL t, .inr (.inl (fun j => gL σ t i (j : Int))))) := by rw [WS_at hok, cell_long hT]
  refine va_last hx hb hK hP (WS_D hap) hS (ps t i) 1 he rfl (o32_in ha h0 h1) (fetch_dec hf rfl (by decide)) (fun H1 locs1 hP1 hD1 hS1 => ?_)
  refine K H1 locs1 ls ?_ hS1 hl
  have e := WS_set (ad := ad) (cy := cy) (σ := σ) (σ' := uL σ t i a v) hok (fun t' i' hr' h => cellOf_eq (fun _ => rfl) (fun j' => by rw [gL_uL, if_neg (fun q => h ⟨q.1, q.2.1⟩)]) (fun _ _ => rfl))
  show va_P D vwCl (WS ad cy (uL σ t i a v)) H1
  have e2 : (fun j : Nat => gL (uL σ t i a v) t i (j : Int)) = vp_updL (fun j : Nat => gL σ t i (j : Int)) a.toNat v := by
    funext j
    unfold vp_updL
    rw [gL_uL]
    by_cases hj : j = a.toNat
    · rw [if_pos hj, if_pos ⟨rfl, rfl, by omega⟩]
    · rw [if_neg hj, if_neg (fun q => hj (by have := q.2.2; omega))]
  rw [← e, cell_long hT, e2, ← o32_cl ha]
  exact hP1
theorem so_aast {i i2 a : Int} {r : List AV} (C : Cx D ad cy A b n xs y p R s m args c cells slots) (hok : okR 17 i) (hok2 : okR 8 i2) (ha : okI a) (hf : fetch y pc = some .aastore) (hc : 0 ≤ a ∧ a < aLen σ 17) (K : Nx D ad cy A p l e R s m args below meth c cells slots Q (pc + 1, L, r, uR σ a (some (8, i2)))) : Nx D ad cy A p l e R s m args below meth c cells slots Q (pc, L, aR 8 i2 :: aI a :: aR 17 i :: r, σ) := by
  obtain ⟨hx, hb, hml, hown, hts, hK, hN, hap, hR, hcl, hsb, hX, hbl, hbA, hn⟩ := C
  intro H locs ls hP hS hl
  obtain ⟨h0, h1⟩ := hc
  have hi : i = 0 := by
    have h3 := hok.2.1
    have h4 := hok.2.2
    rw [show fN 17 = 1 from rfl] at h4
    omega
  subst hi
  rw [aLen_r hok] at h1
  have he : (WS ad cy σ)[ps 17 0]? = some (ad 17 0, .inl (cy 4, fL 17, .inr (.inr (.inr (.inr (fun j => (gR σ (j : Int)).map (fun q => ad q.1 q.2))))))) := by rw [WS_at hok]; rfl
  have hv : (WS ad cy σ)[ps 8 i2]? = some (ad 8 i2, .inr (3, (List.range (cS (fC 8))).map (fun k => cv ad (slv σ 8 i2 k)))) := by rw [WS_at hok2]; rfl
  refine va_astq (r := (cN 3, cT 3, cS 3)) hx hb hK hP (WS_D hap) hS (ps 17 0) 4 (ps 8 i2) 3 he rfl hv (vw_at 3 (by decide)) (o32_in ha h0 h1) (fetch_dec hf rfl (by decide)) (fun H1 locs1 hP1 hD1 hS1 => ?_)
  refine K H1 locs1 ls ?_ hS1 hl
  have e := WS_set (ad := ad) (cy := cy) (σ := σ) (σ' := uR σ a (some (8, i2))) hok (fun t' i' hr' h => by
    by_cases h17 : t' = 17
    · subst h17
      have h4 := hr'.2.2
      have h5 := hr'.2.1
      rw [show fN 17 = 1 from rfl] at h4
      exact absurd ⟨rfl, by omega⟩ h
    · exact cellOf_eq (fun _ => rfl) (fun _ => rfl) (fun q => absurd q h17))
  show va_P D vwCl (WS ad cy (uR σ a (some (8, i2)))) H1
  have e2 : cellOf ad cy (uR σ a (some (8, i2))) 17 0 = .inl (cy 4, fL 17, .inr (.inr (.inr (.inr (va_up (fun j : Nat => (gR σ (j : Int)).map (fun q => ad q.1 q.2)) a.toNat (some (ad 8 i2))))))) := by
    have e3 : (fun j : Nat => (gR (uR σ a (some (8, i2))) (j : Int)).map (fun q => ad q.1 q.2)) = va_up (fun j : Nat => (gR σ (j : Int)).map (fun q => ad q.1 q.2)) a.toNat (some (ad 8 i2)) := by
      funext j
      unfold va_up
      rw [gR_uR]
      by_cases hj : j = a.toNat
      · rw [if_pos hj, if_pos (by omega)]
        rfl
      · rw [if_neg hj, if_neg (by omega)]
    rw [← e3]
    rfl
  rw [← e, e2, ← o32_cl ha]
  exact hP1
theorem so_iastore (C : Cx D ad cy A b n xs y p R s m args c cells slots) (hL : okA L) (hst : okA st) (hM : okM σ) (hSc : Sc σ n xs) (hf : fetch y pc = some (.iastore)) (hs : stp y (.iastore) pc L st σ = some (.inl g)) (K : Nx D ad cy A p l e R s m args below meth c cells slots Q g) : Nx D ad cy A p l e R s m args below meth c cells slots Q (pc, L, st, σ) := by
  simp only [stp] at hs
  split at hs
  · split at hs
    · rename_i hc
      cases hs
      exact so_iast C (okR_of (okA_hd (okA_tl (okA_tl hst))) (hc.2.1)) (okA_hd (okA_tl hst)) hf ⟨hc.1, hc.2.2⟩ K
    · cases hs
  · cases hs
theorem so_lastore (C : Cx D ad cy A b n xs y p R s m args c cells slots) (hL : okA L) (hst : okA st) (hM : okM σ) (hSc : Sc σ n xs) (hf : fetch y pc = some (.lastore)) (hs : stp y (.lastore) pc L st σ = some (.inl g)) (K : Nx D ad cy A p l e R s m args below meth c cells slots Q g) : Nx D ad cy A p l e R s m args below meth c cells slots Q (pc, L, st, σ) := by
  simp only [stp] at hs
  split at hs
  · split at hs
    · rename_i hc
      cases hs
      exact so_last C (okR_of (okA_hd (okA_tl (okA_tl hst))) (n34 hc.1 (by decide))) (okA_hd (okA_tl hst)) hf hc K
    · cases hs
  · cases hs
theorem so_bastore (C : Cx D ad cy A b n xs y p R s m args c cells slots) (hL : okA L) (hst : okA st) (hM : okM σ) (hSc : Sc σ n xs) (hf : fetch y pc = some (.bastore)) (hs : stp y (.bastore) pc L st σ = some (.inl g)) (K : Nx D ad cy A p l e R s m args below meth c cells slots Q g) : Nx D ad cy A p l e R s m args below meth c cells slots Q (pc, L, st, σ) := by
  simp only [stp] at hs
  split at hs
  · split at hs
    · rename_i hc
      cases hs
      exact so_bast C (okR_of (okA_hd (okA_tl (okA_tl hst))) (n34 hc.1 (by decide))) (okA_hd (okA_tl hst)) hc.2.1 hf ⟨hc.1, hc.2.2⟩ K
    · cases hs
  · cases hs
theorem so_aastore (C : Cx D ad cy A b n xs y p R s m args c cells slots) (hL : okA L) (hst : okA st) (hM : okM σ) (hSc : Sc σ n xs) (hf : fetch y pc = some (.aastore)) (hs : stp y (.aastore) pc L st σ = some (.inl g)) (K : Nx D ad cy A p l e R s m args below meth c cells slots Q g) : Nx D ad cy A p l e R s m args below meth c cells slots Q (pc, L, st, σ) := by
  simp only [stp] at hs
  split at hs
  · split at hs
    · rename_i hc
      cases hs
      obtain ⟨rfl, rfl, hc⟩ := hc
      exact so_aast C (okR_of (okA_hd (okA_tl (okA_tl hst))) (by decide)) (okR_of (okA_hd hst) (by decide)) (okA_hd (okA_tl hst)) hf hc K
    · cases hs
  · cases hs
theorem so_alen {t : Nat} {i : Int} {r : List AV} (C : Cx D ad cy A b n xs y p R s m args c cells slots) (hSc : Sc σ n xs) (hok : okv (aR t i)) (hf : fetch y pc = some .arraylength) (hc : fC t = 99) (K : Nx D ad cy A p l e R s m args below meth c cells slots Q (pc + 1, L, aI (aLen σ t) :: r, σ)) : Nx D ad cy A p l e R s m args below meth c cells slots Q (pc, L, aR t i :: r, σ) := by
  obtain ⟨hx, hb, hml, hown, hts, hK, hN, hap, hR, hcl, hsb, hX, hbl, hbA, hn⟩ := C
  intro H locs ls hP hS hl
  rcases hok t i rfl with hr | ⟨rfl, rfl⟩
  · have e1 : Int32.ofNat (fL t) = Int32.ofInt (aLen σ t) := by
      rw [aLen_r hr, Int32.ofInt_eq_ofNat]
    have hT : fT t ≤ 5 := by
      have k : (List.range 34).all (fun t => decide (fC t = 99 → fT t ≤ 5)) = true := by decide +kernel
      exact of_decide_eq_true (List.all_eq_true.mp k t (List.mem_range.mpr hr.1)) hc
    have key : ∀ (k : Nat) (ty : FieldType) (x : vp_A), cellOf ad cy σ t i = .inl (cy k, x) → x.1 = fL t → (tysOf cy)[k]? = some (cy k, ty) → W p l e R s m args below meth c H locs cells slots Q (F0 m pc ls (.ref (ad t i) :: r.map (cv ad))) := by
      intro k ty x hcell hx1 hty
      exact va_alen hx hb hK hP (ps t i) k (by rw [WS_at hr, hcell]) hty (by rw [hx1]; exact e1) (fetch_dec hf rfl (by decide)) (K H locs ls hP hS hl)
    rcases (show fT t = 0 ∨ fT t = 1 ∨ fT t = 2 ∨ fT t = 3 ∨ (fT t = 4 ∨ fT t = 5) by omega) with h | h | h | h | h
    · exact key 0 _ _ (cell_int h) rfl rfl
    · exact key 1 _ _ (cell_long h) rfl rfl
    · exact key 2 _ _ (cell_bool h) rfl rfl
    · have e2 := cell_ref (ad := ad) (cy := cy) (σ := σ) (t := t) (i := i) (by omega)
      rw [if_pos h] at e2
      exact key 3 _ _ e2 rfl rfl
    · have e2 := cell_ref (ad := ad) (cy := cy) (σ := σ) (t := t) (i := i) (by omega)
      rw [if_neg (by omega)] at e2
      exact key 4 _ _ e2 rfl rfl
  · show W p l e R s m args below meth c H locs cells slots Q (F0 m pc ls (.ref (ad 34 0) :: r.map (cv ad)))
    rw [hsb]
    refine va_slen hx hb hX hbl hbA hS (fetch_dec hf rfl (by decide)) ?_
    have e1 : Value.int (Int32.ofNat n) = cv ad (aI (aLen σ 34)) := by
      show _ = Value.int (Int32.ofInt (gI σ 34 0 (-1)))
      rw [hSc.1, Int32.ofInt_eq_ofNat]
    rw [e1]
    exact K H locs ls hP hS hl
theorem so_arraylength (C : Cx D ad cy A b n xs y p R s m args c cells slots) (hL : okA L) (hst : okA st) (hM : okM σ) (hSc : Sc σ n xs) (hf : fetch y pc = some (.arraylength)) (hs : stp y (.arraylength) pc L st σ = some (.inl g)) (K : Nx D ad cy A p l e R s m args below meth c cells slots Q g) : Nx D ad cy A p l e R s m args below meth c cells slots Q (pc, L, st, σ) := by
  simp only [stp] at hs
  split at hs
  · split at hs
    · rename_i hc
      cases hs
      exact so_alen C hSc (okA_hd hst) hf hc.1 K
    · cases hs
  · cases hs
theorem brn_go {off : Int} {bb : Bool} {r : List AV} (hs : brn pc off bb L r σ = some (.inl g)) : ∃ t : Nat, (pc : Int) + off = (t : Int) ∧ g = (if bb = true then (t, L, r, σ) else (pc + 3, L, r, σ)) := by
  unfold brn at hs
  split at hs
  · rename_i t ht
    refine ⟨t, tg_at ht, ?_⟩
    split at hs
    · rename_i h
      cases hs
      rw [if_pos h]
    · rename_i h
      cases hs
      rw [if_neg h]
  · cases hs
theorem so_br {off : Int} {bb : Bool} {r : List AV} {t : Nat} {H : Heap} {locs : List Loc} {ls : Array Slot} {cond : Prop} (hP : va_P D vwCl (WS ad cy σ) H) (hS : va_S A s.heap H locs) (hl : LR ad L ls) (hc : bb = true ↔ cond) (K : Nx D ad cy A p l e R s m args below meth c cells slots Q (if bb = true then (t, L, r, σ) else (pc + 3, L, r, σ))) : (cond → W p l e R s m args below meth c H locs cells slots Q (F0 m t ls (r.map (cv ad)))) ∧ (¬ cond → W p l e R s m args below meth c H locs cells slots Q (F0 m (pc + 3) ls (r.map (cv ad)))) := by
  constructor
  · intro h
    rw [if_pos (hc.mpr h)] at K
    exact K H locs ls hP hS hl
  · intro h
    rw [if_neg (fun q => h (hc.mp q))] at K
    exact K H locs ls hP hS hl
theorem so_if_icmp {k : ClassFile.Cond} {off : Int} (C : Cx D ad cy A b n xs y p R s m args c cells slots) (hL : okA L) (hst : okA st) (hM : okM σ) (hSc : Sc σ n xs) (hf : fetch y pc = some (.if_icmp k off)) (hs : stp y (.if_icmp k off) pc L st σ = some (.inl g)) (K : Nx D ad cy A p l e R s m args below meth c cells slots Q g) : Nx D ad cy A p l e R s m args below meth c cells slots Q (pc, L, st, σ) := by
  simp only [stp] at hs
  split at hs
  · rename_i v u r
    obtain ⟨t, ht, rfl⟩ := brn_go hs
    have h1 := okA_hd hst
    have h2 := okA_hd (okA_tl hst)
    have h1 : okI v := h1
    have h2 : okI u := h2
    obtain ⟨hx, hb, hml, hown, hts, hK, hN, hap, hR, hcl, hsb, hX, hbl, hbA, hn⟩ := C
    intro H locs ls hP hS hl
    cases k
    case eq =>
      obtain ⟨k1, k2⟩ := so_br (cond := Int32.ofInt u = Int32.ofInt v) hP hS hl (bc_eq.trans (o32_eq h2 h1).symm) K
      exact lv_icmp_eq hx hb (fetch_dec hf rfl (by decide)) ht k1 k2
    case ne =>
      obtain ⟨k1, k2⟩ := so_br (cond := ¬ Int32.ofInt u = Int32.ofInt v) hP hS hl (bc_ne.trans (not_congr (o32_eq h2 h1).symm)) K
      exact lv_icmp_ne hx hb (fetch_dec hf rfl (by decide)) ht k1 k2
    case lt =>
      obtain ⟨k1, k2⟩ := so_br (cond := Int32.ofInt u < Int32.ofInt v) hP hS hl (bc_lt.trans (o32_lt h2 h1).symm) K
      exact lv_icmp_lt hx hb (fetch_dec hf rfl (by decide)) ht k1 k2
    case ge =>
      obtain ⟨k1, k2⟩ := so_br (cond := Int32.ofInt v ≤ Int32.ofInt u) hP hS hl (bc_ge.trans (o32_le h1 h2).symm) K
      exact lv_icmp_ge hx hb (fetch_dec hf rfl (by decide)) ht k1 k2
    case gt =>
      obtain ⟨k1, k2⟩ := so_br (cond := Int32.ofInt v < Int32.ofInt u) hP hS hl (bc_gt.trans (o32_lt h1 h2).symm) K
      exact lv_icmp_gt hx hb (fetch_dec hf rfl (by decide)) ht k1 k2
    case le =>
      obtain ⟨k1, k2⟩ := so_br (cond := Int32.ofInt u ≤ Int32.ofInt v) hP hS hl (bc_le.trans (o32_le h2 h1).symm) K
      exact lv_icmp_le hx hb (fetch_dec hf rfl (by decide)) ht k1 k2
  · cases hs
theorem so_ifCond {k : ClassFile.Cond} {off : Int} (C : Cx D ad cy A b n xs y p R s m args c cells slots) (hL : okA L) (hst : okA st) (hM : okM σ) (hSc : Sc σ n xs) (hf : fetch y pc = some (.ifCond k off)) (hs : stp y (.ifCond k off) pc L st σ = some (.inl g)) (K : Nx D ad cy A p l e R s m args below meth c cells slots Q g) : Nx D ad cy A p l e R s m args below meth c cells slots Q (pc, L, st, σ) := by
  simp only [stp] at hs
  split at hs
  · rename_i u r
    obtain ⟨t, ht, rfl⟩ := brn_go hs
    have h2 : okI u := okA_hd hst
    have h1 : okI 0 := okI_0
    obtain ⟨hx, hb, hml, hown, hts, hK, hN, hap, hR, hcl, hsb, hX, hbl, hbA, hn⟩ := C
    intro H locs ls hP hS hl
    cases k
    case eq =>
      obtain ⟨k1, k2⟩ := so_br (cond := Int32.ofInt u = Int32.ofInt 0) hP hS hl (bc_eq.trans (o32_eq h2 h1).symm) K
      exact lv_if_eq hx hb (fetch_dec hf rfl (by decide)) ht k1 k2
    case ne =>
      obtain ⟨k1, k2⟩ := so_br (cond := ¬ Int32.ofInt u = Int32.ofInt 0) hP hS hl (bc_ne.trans (not_congr (o32_eq h2 h1).symm)) K
      exact lv_if_ne hx hb (fetch_dec hf rfl (by decide)) ht k1 k2
    case lt =>
      obtain ⟨k1, k2⟩ := so_br (cond := Int32.ofInt u < Int32.ofInt 0) hP hS hl (bc_lt.trans (o32_lt h2 h1).symm) K
      exact lv_if_lt hx hb (fetch_dec hf rfl (by decide)) ht k1 k2
    case ge =>
      obtain ⟨k1, k2⟩ := so_br (cond := Int32.ofInt 0 ≤ Int32.ofInt u) hP hS hl (bc_ge.trans (o32_le h1 h2).symm) K
      exact lv_if_ge hx hb (fetch_dec hf rfl (by decide)) ht k1 k2
    case gt =>
      obtain ⟨k1, k2⟩ := so_br (cond := Int32.ofInt 0 < Int32.ofInt u) hP hS hl (bc_gt.trans (o32_lt h1 h2).symm) K
      exact lv_if_gt hx hb (fetch_dec hf rfl (by decide)) ht k1 k2
    case le =>
      obtain ⟨k1, k2⟩ := so_br (cond := Int32.ofInt u ≤ Int32.ofInt 0) hP hS hl (bc_le.trans (o32_le h2 h1).symm) K
      exact lv_if_le hx hb (fetch_dec hf rfl (by decide)) ht k1 k2
  · cases hs
theorem ad_inj {A : Nat → Prop} {ad : Nat → Int → Nat} (hap : Apart A ad) {b : Nat} (hsb : ad 34 0 = b) (hbA : ¬ A b) {q1 q2 : Option (Nat × Int)} (h1 : okQ q1) (h2 : okQ q2) : q1.map (fun q => ad q.1 q.2) = q2.map (fun q => ad q.1 q.2) ↔ q1 = q2 := by
  constructor
  · intro h
    rcases q1 with _ | ⟨t1, i1⟩ <;> rcases q2 with _ | ⟨t2, i2⟩
    · rfl
    · cases h
    · cases h
    · have h : ad t1 i1 = ad t2 i2 := Option.some.inj h
      rcases h1 t1 i1 rfl with a1 | ⟨rfl, rfl⟩ <;> rcases h2 t2 i2 rfl with a2 | ⟨rfl, rfl⟩
      · obtain ⟨rfl, rfl⟩ := hap.1 _ _ _ _ a1 a2 h
        rfl
      · exact absurd (by rw [← hsb, ← h]; exact hap.2 _ _ a1) hbA
      · exact absurd (by rw [← hsb, h]; exact hap.2 _ _ a2) hbA
      · rfl
  · intro h; rw [h]
theorem so_if_acmp {k : ClassFile.ACond} {off : Int} (C : Cx D ad cy A b n xs y p R s m args c cells slots) (hL : okA L) (hst : okA st) (hM : okM σ) (hSc : Sc σ n xs) (hf : fetch y pc = some (.if_acmp k off)) (hs : stp y (.if_acmp k off) pc L st σ = some (.inl g)) (K : Nx D ad cy A p l e R s m args below meth c cells slots Q g) : Nx D ad cy A p l e R s m args below meth c cells slots Q (pc, L, st, σ) := by
  simp only [stp] at hs
  split at hs
  · rename_i q2 q1 r
    split at hs
    · obtain ⟨t, ht, rfl⟩ := brn_go hs
      have h2 : okQ q2 := okA_hd hst
      have h1 : okQ q1 := okA_hd (okA_tl hst)
      obtain ⟨hx, hb, hml, hown, hts, hK, hN, hap, hR, hcl, hsb, hX, hbl, hbA, hn⟩ := C
      intro H locs ls hP hS hl
      obtain ⟨k1, k2⟩ := so_br (cond := ¬ q1.map (fun q => ad q.1 q.2) = q2.map (fun q => ad q.1 q.2)) hP hS hl (bc_qn.trans (not_congr (ad_inj hap hsb hbA h1 h2).symm)) K
      exact lv_acmp_ne hx hb (fetch_dec hf rfl (by decide)) ht k1 (fun q => k2 (fun z => z q))
    · cases hs
  · cases hs
theorem so_ifnull {off : Int} (C : Cx D ad cy A b n xs y p R s m args c cells slots) (hL : okA L) (hst : okA st) (hM : okM σ) (hSc : Sc σ n xs) (hf : fetch y pc = some (.ifnull off)) (hs : stp y (.ifnull off) pc L st σ = some (.inl g)) (K : Nx D ad cy A p l e R s m args below meth c cells slots Q g) : Nx D ad cy A p l e R s m args below meth c cells slots Q (pc, L, st, σ) := by
  simp only [stp] at hs
  split at hs
  · rename_i q r
    obtain ⟨t, ht, rfl⟩ := brn_go hs
    obtain ⟨hx, hb, hml, hown, hts, hK, hN, hap, hR, hcl, hsb, hX, hbl, hbA, hn⟩ := C
    intro H locs ls hP hS hl
    cases q with
    | none => exact lv_ifnullN hx hb (fetch_dec hf rfl (by decide)) ht (K H locs ls hP hS hl)
    | some q => exact lv_ifnull hx hb (fetch_dec hf rfl (by decide)) (K H locs ls hP hS hl)
  · cases hs
theorem so_ifnonnull {off : Int} (C : Cx D ad cy A b n xs y p R s m args c cells slots) (hL : okA L) (hst : okA st) (hM : okM σ) (hSc : Sc σ n xs) (hf : fetch y pc = some (.ifnonnull off)) (hs : stp y (.ifnonnull off) pc L st σ = some (.inl g)) (K : Nx D ad cy A p l e R s m args below meth c cells slots Q g) : Nx D ad cy A p l e R s m args below meth c cells slots Q (pc, L, st, σ) := by
  simp only [stp] at hs
  split at hs
  · rename_i q r
    obtain ⟨t, ht, rfl⟩ := brn_go hs
    obtain ⟨hx, hb, hml, hown, hts, hK, hN, hap, hR, hcl, hsb, hX, hbl, hbA, hn⟩ := C
    intro H locs ls hP hS hl
    cases q with
    | none => exact lv_ifnonnullN hx hb (fetch_dec hf rfl (by decide)) (K H locs ls hP hS hl)
    | some q => exact lv_ifnonnull hx hb (fetch_dec hf rfl (by decide)) ht (K H locs ls hP hS hl)
  · cases hs
theorem so_goto {off : Int} (C : Cx D ad cy A b n xs y p R s m args c cells slots) (hL : okA L) (hst : okA st) (hM : okM σ) (hSc : Sc σ n xs) (hf : fetch y pc = some (.goto off)) (hs : stp y (.goto off) pc L st σ = some (.inl g)) (K : Nx D ad cy A p l e R s m args below meth c cells slots Q g) : Nx D ad cy A p l e R s m args below meth c cells slots Q (pc, L, st, σ) := by
  simp only [stp] at hs
  split at hs
  · rename_i t ht
    cases hs
    obtain ⟨hx, hb, hml, hown, hts, hK, hN, hap, hR, hcl, hsb, hX, hbl, hbA, hn⟩ := C
    intro H locs ls hP hS hl
    exact lv_goto hx hb (fetch_dec hf rfl (by decide)) (tg_at ht) (K H locs ls hP hS hl)
  · cases hs
theorem so_tableswitch {d lo hi : Int} {offs : Array Int} (C : Cx D ad cy A b n xs y p R s m args c cells slots) (hL : okA L) (hst : okA st) (hM : okM σ) (hSc : Sc σ n xs) (hf : fetch y pc = some (.tableswitch d lo hi offs)) (hs : stp y (.tableswitch d lo hi offs) pc L st σ = some (.inl g)) (K : Nx D ad cy A p l e R s m args below meth c cells slots Q g) : Nx D ad cy A p l e R s m args below meth c cells slots Q (pc, L, st, σ) := by
  simp only [stp] at hs
  split at hs
  · rename_i a r
    have ha : okI a := okA_hd hst
    obtain ⟨len, hd⟩ := fetch_sw hf
    obtain ⟨hx, hb, hml, hown, hts, hK, hN, hap, hR, hcl, hsb, hX, hbl, hbA, hn⟩ := C
    intro H locs ls hP hS hl
    split at hs
    · rename_i ho
      split at hs
      · rename_i t ht
        cases hs
        exact lv_tableOut hx hb hd (by rw [o32_id ha]; exact ho) (tg_at ht) (K H locs ls hP hS hl)
      · cases hs
    · rename_i ho
      split at hs
      · rename_i off hoff
        split at hs
        · rename_i t ht
          cases hs
          exact lv_tableIn hx hb hd (by rw [o32_id ha]; omega) (by rw [o32_id ha]; omega) (by rw [o32_id ha]; exact hoff) (tg_at ht) (K H locs ls hP hS hl)
        · cases hs
      · cases hs
  · cases hs
end SND
end
