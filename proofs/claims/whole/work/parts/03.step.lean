/-! rows of the small machine that its instances take -/
theorem ev_br {y pc : Nat} {L st : List AV} {σ : aM} {i : Instr} {t pc2 : Nat} {st' : List AV} {b : Bool} {c : Prop} [Decidable c] (hd : fetch y pc = some i) (hs : stp y i pc L st σ = if b = true then go1 t L st' σ else go1 pc2 L st' σ) (hb : b = true ↔ c) : ev y pc L st σ = if c then ev y t L st' σ else ev y pc2 L st' σ := by
  by_cases h : c
  · rw [if_pos h]
    refine ev_go hd ?_
    rw [hs, if_pos (hb.mpr h)]
  · rw [if_neg h]
    refine ev_go hd ?_
    rw [hs, if_neg (fun q => h (hb.mp q))]
theorem bc_eq {a b : Int} : bcnd .eq a b = true ↔ a = b := decide_eq_true_iff
theorem bc_ne {a b : Int} : bcnd .ne a b = true ↔ ¬ a = b := by simp [bcnd]
theorem bc_lt {a b : Int} : bcnd .lt a b = true ↔ a < b := decide_eq_true_iff
theorem bc_ge {a b : Int} : bcnd .ge a b = true ↔ b ≤ a := decide_eq_true_iff
theorem bc_gt {a b : Int} : bcnd .gt a b = true ↔ b < a := decide_eq_true_iff
theorem bc_le {a b : Int} : bcnd .le a b = true ↔ a ≤ b := decide_eq_true_iff
theorem bc_qn {a b : Option (Nat × Int)} : (!decide (a = b)) = true ↔ ¬ a = b := by simp
theorem bc_non {a : Option (Nat × Int)} : a.isNone = true ↔ a = none := by simp
theorem bc_som {a : Option (Nat × Int)} : a.isSome = true ↔ ¬ a = none := by cases a <;> simp
theorem ev_cd {y pc : Nat} {L st : List AV} {σ : aM} {i : Instr} {pc' : Nat} {L' st' : List AV} {σ' : aM} {c : Prop} [Decidable c] (hd : fetch y pc = some i) (hs : stp y i pc L st σ = if c then go1 pc' L' st' σ' else none) (hc : c) : ev y pc L st σ = ev y pc' L' st' σ' := ev_go hd (by rw [hs, if_pos hc])
theorem aLen_n {t n : Nat} {σ : aM} (hn : t ≠ 34) (hl : fL t = n) : aLen σ t = (n : Int) := by
  unfold aLen
  rw [if_neg hn, hl]
theorem ev_ld {y pc : Nat} {L st r : List AV} {σ : aM} {i : Instr} {t T n : Nat} {j a : Int} {v : AV} (hd : fetch y pc = some i) (hs : stp y i pc L st σ = ldA t j a σ T pc L r v) (hT : fT t = T) (hn : t ≠ 34) (hl : fL t = n) (h : 0 ≤ a ∧ a < (n : Int)) : ev y pc L st σ = ev y (pc + 1) L (v :: r) σ := by
  refine ev_go hd (hs.trans ?_)
  have hc : a < aLen σ t := by rw [aLen_n hn hl]; exact h.2
  unfold ldA
  rw [if_pos ⟨hT, h.1, hc⟩]
theorem ev_ldS {y pc : Nat} {L st r : List AV} {σ : aM} {i : Instr} {a : Int} {v : AV} (hd : fetch y pc = some i) (hs : stp y i pc L st σ = ldA 34 0 a σ 0 pc L r v) (h : 0 ≤ a ∧ a < gI σ 34 0 (-1)) : ev y pc L st σ = ev y (pc + 1) L (v :: r) σ := by
  refine ev_go hd (hs.trans ?_)
  have hc : a < aLen σ 34 := h.2
  unfold ldA
  rw [if_pos ⟨rfl, h.1, hc⟩]
theorem ev_st {y pc : Nat} {L st r : List AV} {σ σ' : aM} {i : Instr} {t n : Nat} {a : Int} {p : Prop} [Decidable p] {q : Prop} [Decidable q] (hd : fetch y pc = some i) (hs : stp y i pc L st σ = if p ∧ q ∧ (0 ≤ a ∧ a < aLen σ t) then go1 (pc + 1) L r σ' else none) (hp : p) (hq : q) (hn : t ≠ 34) (hl : fL t = n) (h : 0 ≤ a ∧ a < (n : Int)) : ev y pc L st σ = ev y (pc + 1) L r σ' := by
  refine ev_go hd (hs.trans ?_)
  have hc : a < aLen σ t := by rw [aLen_n hn hl]; exact h.2
  rw [if_pos ⟨hp, hq, h.1, hc⟩]
theorem ev_st1 {y pc : Nat} {L st r : List AV} {σ σ' : aM} {i : Instr} {t n : Nat} {a : Int} {p : Prop} [Decidable p] (hd : fetch y pc = some i) (hs : stp y i pc L st σ = if p ∧ (0 ≤ a ∧ a < aLen σ t) then go1 (pc + 1) L r σ' else none) (hp : p) (hn : t ≠ 34) (hl : fL t = n) (h : 0 ≤ a ∧ a < (n : Int)) : ev y pc L st σ = ev y (pc + 1) L r σ' := by
  refine ev_go hd (hs.trans ?_)
  have hc : a < aLen σ t := by rw [aLen_n hn hl]; exact h.2
  rw [if_pos ⟨hp, h.1, hc⟩]
theorem isB_of {v : Int} (h : v = 0 ∨ v = 1) : isB v = true := by
  rcases h with rfl | rfl <;> rfl
theorem ev_rB {y pc : Nat} {L st : List AV} {σ : aM} {i : Instr} {a : Int} {r : Option AV × aM} (hd : fetch y pc = some i) (hs : stp y i pc L st σ = if isB a = true then some (.inr (.inl r)) else none) (h : a = 0 ∨ a = 1) : ev y pc L st σ = some r := ev_ret hd (by rw [hs, if_pos (isB_of h)])
theorem ev_sw {y pc : Nat} {L st r : List AV} {σ : aM} {i : Instr} {a dflt lo hi : Int} {offs : Array Int} {t : Nat} (hd : fetch y pc = some i) (hs : stp y i pc L st σ = if a < lo ∨ hi < a then (match tg pc dflt with | some t => go1 t L r σ | none => none) else (match offs[(a - lo).toNat]? with | some off => (match tg pc off with | some t => go1 t L r σ | none => none) | none => none))
    (ho : a < lo ∨ hi < a) (ht : tg pc dflt = some t) : ev y pc L st σ = ev y t L r σ := by
  refine ev_go hd (hs.trans ?_)
  rw [if_pos ho, ht]
theorem inr32_of {a : Int} (h : -2147483648 ≤ a ∧ a < 2147483648) : inr32 a = true := by
  unfold inr32
  rw [decide_eq_true h.1, decide_eq_true h.2]
  rfl
