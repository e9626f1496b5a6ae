/-! the auction's loop, on both sides -/
theorem suF_pos {f : Int → Int} : ∀ (n : Nat) (i : Int), 0 < suF f n i → ∃ k, (i ≤ k ∧ k < i + n) ∧ 0 < f k := by
  intro n
  induction n with
  | zero => intro i h; rw [suF] at h; omega
  | succ n ih =>
    intro i h
    rw [suF] at h
    by_cases y : 0 < f i
    · exact ⟨i, ⟨by omega, by omega⟩, y⟩
    · obtain ⟨k, k1, k2⟩ := ih (i + 1) (by omega)
      exact ⟨k, ⟨by omega, by omega⟩, k2⟩
theorem first_buy {τ : aM} {p : Int} (hI : IO τ (-1)) (hD : DT τ) (h0 : 0 ≤ gI τ 6 0 2) (hb : 0 < bV τ p) : ∃ x, frs τ 0 = some x ∧ p ≤ gI τ 8 x 7 := by
  obtain ⟨k, k1, k2⟩ := suF_pos _ _ hb
  have kr : 0 ≤ k ∧ k < gI τ 6 0 2 := by unfold nC at k1; omega
  have hk : elA τ k ∧ gI τ 8 k 3 = 0 ∧ p ≤ gI τ 8 k 7 := by
    unfold bV1 at k2
    by_cases y : elA τ k ∧ gI τ 8 k 3 = 0 ∧ p ≤ gI τ 8 k 7
    · exact y
    · rw [if_neg y] at k2; omega
  have he : elL τ 0 1 k := (elF_K hI kr.1 kr.2).mpr ⟨hk.1.1, hk.2.1, hk.1.2.1⟩
  have hF := frs_Fst1 (w := 0) hI hD h0
  cases hx : frs τ 0 with
  | none =>
    rw [hx] at hF
    rcases hF with y | y
    · exact absurd he (y.2 k kr.1 kr.2)
    · have := y.1.1
      exact absurd this (by show ¬ (0 : Int) ≤ -1; omega)
  | some x =>
    have hxi := frs_in h0 hx
    rw [hx] at hF
    refine ⟨x, rfl, ?_⟩
    rcases hF with y | y
    · have := y.1
      have : x = -1 := this
      omega
    · by_cases z : k = x
      · rw [← z]; exact hk.2.2
      · have ah := y.2.2 k kr.1 kr.2 he z
        have ah : AH τ 0 x k := ah
        unfold AH ahd at ah
        rw [pfB_l hxi.2.2.2.2, pfB_l hk.1.2.1, hxi.2.2.2.1] at ah
        omega
theorem first_sell {τ : aM} {p : Int} (hI : IO τ (-1)) (hD : DT τ) (h0 : 0 ≤ gI τ 6 0 2) (hb : 0 < sV τ p) : ∃ x, frs τ 1 = some x ∧ gI τ 8 x 7 ≤ p := by
  obtain ⟨k, k1, k2⟩ := suF_pos _ _ hb
  have kr : 0 ≤ k ∧ k < gI τ 6 0 2 := by unfold nC at k1; omega
  have hk : elA τ k ∧ ¬ gI τ 8 k 3 = 0 ∧ gI τ 8 k 7 ≤ p := by
    unfold sV1 at k2
    by_cases y : elA τ k ∧ ¬ gI τ 8 k 3 = 0 ∧ gI τ 8 k 7 ≤ p
    · exact y
    · rw [if_neg y] at k2; omega
  have h3 := (IO_p hI kr.1 kr.2).1.2.1
  have he : elL τ 1 1 k := (elF_K hI kr.1 kr.2).mpr ⟨hk.1.1, by omega, hk.1.2.1⟩
  have hF := frs_Fst1 (w := 1) hI hD h0
  cases hx : frs τ 1 with
  | none =>
    rw [hx] at hF
    rcases hF with y | y
    · exact absurd he (y.2 k kr.1 kr.2)
    · have := y.1.1
      exact absurd this (by show ¬ (0 : Int) ≤ -1; omega)
  | some x =>
    have hxi := frs_in h0 hx
    rw [hx] at hF
    refine ⟨x, rfl, ?_⟩
    rcases hF with y | y
    · have := y.1
      have : x = -1 := this
      omega
    · by_cases z : k = x
      · rw [← z]; exact hk.2.2
      · have ah := y.2.2 k kr.1 kr.2 he z
        have ah : AH τ 1 x k := ah
        unfold AH ahd at ah
        rw [pfB_l hxi.2.2.2.2, pfB_l hk.1.2.1, hxi.2.2.2.1] at ah
        omega
theorem vol_less {τ τ' : aM} {f : aM → Int → Int} {x q : Int} (h6 : gI τ' 6 0 2 = gI τ 6 0 2) (hx : 0 ≤ x ∧ x < gI τ 6 0 2) (h1 : f τ x = f τ' x + q) (h2 : ∀ k, ¬ k = x → f τ k = f τ' k) : suF (f τ) (nC τ) 0 = suF (f τ') (nC τ') 0 + q := by
  rw [show nC τ' = nC τ by unfold nC; rw [h6], suF_add (f τ) (f τ') (fun k => if k = x then q else 0) (fun k => by
    by_cases y : k = x
    · rw [if_pos y, y]; exact h1
    · rw [if_neg y, h2 k y]; omega) (nC τ) 0, suF_one x q (nC τ) 0 hx.1 (by unfold nC; omega)]
theorem trade_vol {τ : aM} {u p x z q : Int} (hI : IO τ (-1)) (h0 : 0 ≤ gI τ 6 0 2) (hx : frs τ 0 = some x) (hz : frs τ 1 = some z) (hpx : p ≤ gI τ 8 x 7) (hpz : gI τ 8 z 7 ≤ p) (hqe : opQ τ u x z = q) (hq : 1 ≤ q ∧ q ≤ gI τ 8 x 4 ∧ q ≤ gI τ 8 z 4) :
    bV τ p = bV (kO1 τ u p x z) p + q ∧ sV τ p = sV (kO1 τ u p x z) p + q := by
  have hxi := frs_in h0 hx
  have hzi := frs_in h0 hz
  have hxz : ¬ x = z := fun y => by rw [y] at hxi; omega
  obtain ⟨E1, E2, E3⟩ := kO1_eff τ u p x z q hxz hqe
  have e6 : gI (kO1 τ u p x z) 6 0 2 = gI τ 6 0 2 := by rw [E1 _ _ _ (by decide), g_kNt6]
  have hf : ∀ o, (o = x ∨ o = z) → (0 ≤ o ∧ o < gI τ 6 0 2) ∧ gI τ 8 o 5 = 1 ∧ ¬ gI τ 8 o 1 = 3 ∧ q ≤ gI τ 8 o 4 ∧ gI τ 8 o 4 ≤ 999 ∧ 1 ≤ gI τ 8 o 7 ∧ gI τ 8 o 7 < 1000 := fun o ho => by
    have g : (0 ≤ o ∧ o < gI τ 6 0 2) ∧ gI τ 8 o 5 = 1 ∧ ¬ gI τ 8 o 1 = 3 ∧ q ≤ gI τ 8 o 4 := by
      rcases ho with ho | ho
      · rw [ho]; exact ⟨⟨hxi.1, hxi.2.1⟩, hxi.2.2.1, hxi.2.2.2.2, hq.2.1⟩
      · rw [ho]; exact ⟨⟨hzi.1, hzi.2.1⟩, hzi.2.2.1, hzi.2.2.2.2, hq.2.2⟩
    obtain ⟨ia, ib, ip, _⟩ := IO_p hI g.1.1 g.1.2
    exact ⟨g.1, g.2.1, g.2.2.1, g.2.2.2, ib.1.2, ip g.2.2.1, by omega⟩
  have hs : ∀ o, (o = x ∨ o = z) → gI (kO1 τ u p x z) 8 o 3 = gI τ 8 o 3 ∧ gI (kO1 τ u p x z) 8 o 7 = gI τ 8 o 7 := fun o ho => ⟨(E3 o ho).2.2.2.2 3 (by omega) (by omega) (by omega) (by omega), (E3 o ho).2.2.2.2 7 (by omega) (by omega) (by omega) (by omega)⟩
  have he : ∀ o, (o = x ∨ o = z) → elA τ o ∧ ((gI τ 8 o 4 - q = 0 ∧ ¬ elA (kO1 τ u p x z) o) ∨ (elA (kO1 τ u p x z) o ∧ gI (kO1 τ u p x z) 8 o 4 = gI τ 8 o 4 - q)) := fun o ho => by
    obtain ⟨f1, f2, f3, f4, f5, f6, f7⟩ := hf o ho
    obtain ⟨t4, t6, t5, t9, tj⟩ := E3 o ho
    rw [wr_id (by omega) (by omega)] at t4 t5
    refine ⟨⟨f2, f3, f6, f7⟩, ?_⟩
    by_cases y : gI τ 8 o 4 - q = 0
    · rw [if_pos y] at t5
      exact Or.inl ⟨y, fun w => by have := w.1; omega⟩
    · rw [if_neg y] at t5
      refine Or.inr ⟨⟨by rw [t5]; exact f2, ?_, ?_⟩, t4⟩
      · rw [tj 1 (by omega) (by omega) (by omega) (by omega)]; exact f3
      · rw [(hs o ho).2]; exact ⟨f6, f7⟩
  refine ⟨vol_less (f := fun τ => bV1 τ p) (x := x) e6 ⟨hxi.1, hxi.2.1⟩ ?_ (fun k hk => ?_), vol_less (f := fun τ => sV1 τ p) (x := z) e6 ⟨hzi.1, hzi.2.1⟩ ?_ (fun k hk => ?_)⟩
  · show bV1 τ p x = bV1 (kO1 τ u p x z) p x + q
    obtain ⟨y1, y2⟩ := he x (Or.inl rfl)
    unfold bV1
    rw [if_pos ⟨y1, hxi.2.2.2.1, hpx⟩]
    rcases y2 with y2 | y2
    · rw [if_neg (fun w => y2.2 w.1)]; omega
    · rw [if_pos ⟨y2.1, by rw [(hs x (Or.inl rfl)).1]; exact hxi.2.2.2.1, by rw [(hs x (Or.inl rfl)).2]; exact hpx⟩, y2.2]; omega
  · show bV1 τ p k = bV1 (kO1 τ u p x z) p k
    by_cases kz : k = z
    · rw [kz]
      unfold bV1
      rw [if_neg (fun w => by have := w.2.1; omega), if_neg (fun w => by have := w.2.1; rw [(hs z (Or.inr rfl)).1] at this; omega)]
    · unfold bV1 elA
      rw [E2 k 5 hk kz, E2 k 1 hk kz, E2 k 7 hk kz, E2 k 3 hk kz, E2 k 4 hk kz]
  · show sV1 τ p z = sV1 (kO1 τ u p x z) p z + q
    obtain ⟨y1, y2⟩ := he z (Or.inr rfl)
    have z3 : ¬ gI τ 8 z 3 = 0 := by omega
    unfold sV1
    rw [if_pos ⟨y1, z3, hpz⟩]
    rcases y2 with y2 | y2
    · rw [if_neg (fun w => y2.2 w.1)]; omega
    · rw [if_pos ⟨y2.1, by rw [(hs z (Or.inr rfl)).1]; exact z3, by rw [(hs z (Or.inr rfl)).2]; exact hpz⟩, y2.2]; omega
  · show sV1 τ p k = sV1 (kO1 τ u p x z) p k
    by_cases kx : k = x
    · rw [kx]
      unfold sV1
      rw [if_neg (fun w => w.2.1 hxi.2.2.2.1), if_neg (fun w => w.2.1 (by rw [(hs x (Or.inl rfl)).1]; exact hxi.2.2.2.1))]
    · unfold sV1 elA
      rw [E2 k 5 kx hk, E2 k 1 kx hk, E2 k 7 kx hk, E2 k 3 kx hk, E2 k 4 kx hk]
theorem trade_cnt {τ : aM} {u p x z q : Int} (hI : IO τ (-1)) (h0 : 0 ≤ gI τ 6 0 2) (hx : frs τ 0 = some x) (hz : frs τ 1 = some z) (hqe : opQ τ u x z = q) (hq : 1 ≤ q ∧ q ≤ gI τ 8 x 4 ∧ q ≤ gI τ 8 z 4) : u - q ≤ 0 ∨ cnI (kO1 τ u p x z) 1 + 1 ≤ cnI τ 1 := by
  have hxi := frs_in h0 hx
  have hzi := frs_in h0 hz
  have hxz : ¬ x = z := fun y => by rw [y] at hxi; omega
  obtain ⟨E1, E2, E3⟩ := kO1_eff τ u p x z q hxz hqe
  have e6 : gI (kO1 τ u p x z) 6 0 2 = gI τ 6 0 2 := by rw [E1 _ _ _ (by decide), g_kNt6]
  have hm : ∀ o, gI (kO1 τ u p x z) 8 o 5 = 1 → gI τ 8 o 5 = 1 := fun o y => by
    by_cases ho : o = x ∨ o = z
    · rw [(E3 o ho).2.2.1] at y
      split at y
      · omega
      · exact y
    · rw [E2 o 5 (fun w => ho (Or.inl w)) (fun w => ho (Or.inr w))] at y; exact y
  by_cases y : q = u
  · left; omega
  · right
    unfold cnI
    rw [e6]
    have b1 := (IO_p hI hxi.1 hxi.2.1).2.1.1
    have b2 := (IO_p hI hzi.1 hzi.2.1).2.1.1
    by_cases y2 : gI τ 8 x 4 - q = 0
    · refine cnF_lt x hxi.2.2.1 (fun w => ?_) _ _ hxi.1 (by omega) (fun o _ _ => hm o)
      rw [(E3 x (Or.inl rfl)).2.2.1, wr_id (by omega) (by omega), if_pos y2] at w
      omega
    · have y3 : gI τ 8 z 4 - q = 0 := by
        unfold opQ at hqe
        split at hqe <;> split at hqe <;> omega
      refine cnF_lt z hzi.2.2.1 (fun w => ?_) _ _ hzi.1 (by omega) (fun o _ _ => hm o)
      rw [(E3 z (Or.inr rfl)).2.2.1, wr_id (by omega) (by omega), if_pos y3] at w
      omega
