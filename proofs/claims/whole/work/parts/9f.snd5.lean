/-! the maker is sound: runs -/
theorem brun_mono : ∀ (k y pc : Nat) (L st : List AV) (w : bD) (g : bG), brun k y (pc, L, st, w) = some g → w.1.length ≤ g.2.2.2.1.length ∧ w.2 ≤ g.2.2.2.2 := by
  intro k
  induction k with
  | zero => intro y pc L st w g h; cases h
  | succ k ih =>
    intro y pc L st w g h
    rw [brun] at h
    split at h
    · cases h; exact ⟨Nat.le_refl _, Nat.le_refl _⟩
    · split at h
      · cases h
      · split at h
        · cases h
        · rename_i g1 _
          split at h
          · rename_i hm
            obtain ⟨pc1, L1, st1, w1⟩ := g1
            have := ih y pc1 L1 st1 w1 g h
            have hm : w.1.length ≤ w1.1.length ∧ w.2 ≤ w1.2 := hm
            omega
          · cases h
        · split at h
          · cases h
          · rename_i b1 b2 b3 w2 h1
            have a1 := ih _ _ _ _ _ _ h1
            have a2 := ih _ _ _ _ _ _ h
            have a1 : w.1.length ≤ w2.1.length ∧ w.2 ≤ w2.2 := a1
            omega
def BSnd (l : Launch) (D : va_G) (cy : Nat → ClassId) (base k : Nat) : Prop := ∀ (y pc : Nat) (L st : List AV) (w : bD) (g : bG), brun k y (pc, L, st, w) = some g → bokV w.1 → ∀ (p : Program) (e : Env) (R : Room) (s : State) (m : MethodId) (args : Array Value) (below : List Frame) (meth : Method) (c : Code) (c0 s0 : Nat) (f0 : Nat → Nat) (vx : Option Value) (Q : State → Prop), BX D cy base y p R s m args meth c → (c0 ≤ w.1.length ∧ s0 ≤ w.2) → (g.2.2.2.1.length - c0 ≤ R.cells ∧ g.2.2.2.2 - s0 ≤ R.slots) → (bend y g.1 g.2.2.1 = true → BN D cy base c0 s0 f0 vx p l e R s m args below meth c Q g) → BNg D cy base c0 s0 f0 vx p l e R s m args below meth c Q pc L st w
theorem bmet {l : Launch} {D : va_G} {cy : Nat → ClassId} {base k : Nat} (hS : BSnd l D cy base k) {y : Nat} (hy : y < 213) (hi : (mE y).2.1 = "<init>" ∧ mRt y = none) {as : List AV} {w : bD} {g : bG} (h : brun k y (0, lay0 y as, [], w) = some g) (hV : bokV w.1) (hlay : (lay as).length ≤ mL y) (f : Nat → Nat) (hD : va_D (bA base) (bWS f cy w.1)) : BMet l D cy base y f w g.2.2.2 as := by
  refine Met.ofW (cc := mCd y) (maxL := mL y) (ret := mRt y) (mNm_ok hy).1 rfl ?_
  intro p e s m args below meth c s₁ B hml hv
  obtain ⟨rfl, hP, hK, hN, hbs⟩ := hv
  have hx := B.exec
  have hb := B.bytes
  have hr := B.returns
  have hts := atoms_spec (ws := mWs y) B.pre
  have hown : s.vm.findClass (cN (mC y)) = some m.cls := findClass_of_methodNamed B.named
  have hin : meth.name = "<init>" := (name_of_methodNamed B.named B.method).1.trans hi.1
  have hlocks := B.notSynchronized
  rw [lg_entry_eq]
  have hm := brun_mono _ _ _ _ _ _ _ h
  have C : BX D cy base y p (headSpec (mWs y) (bmR y w g.2.2.2)).room s m (as.map (cv (bad f))).toArray meth c := ⟨hx, hb, hml, hown, fun w hw => hts w (List.mem_cons_of_mem _ hw), hK, hN, ⟨Nat.le_refl _, Nat.le_refl _⟩, Or.inr hin, hbs⟩
  have W0 := hS y 0 _ [] w g h hV p e _ s m _ below meth c w.1.length w.2 f none (MQ below (bmQ D cy base f w.1 g.2.2.2.1) (as.map (cv (bad f))).toArray s (g.2.2.2.1.length - w.1.length) (g.2.2.2.2 - w.2) (bA base)) C ⟨Nat.le_refl _, Nat.le_refl _⟩ ⟨Nat.le_refl _, Nat.le_refl _⟩ (fun hbe => ?_) f (fun _ _ => rfl) s.heap [] _ hP hD va_S.rf (LR_entry hlay) trivial
  · dsimp only at W0
    rw [Nat.sub_self, Nat.sub_self] at W0
    exact W0
  · obtain ⟨pc', L', st', w'⟩ := g
    intro f' hqf H locs ls hP' hD' hS' hl' _
    unfold bend at hbe
    split at hbe
    · rename_i hf
      have e0 : st' = [] := List.isEmpty_iff.mp hbe
      subst e0
      exact W.vret hx hb (hr.trans hi.2) (fun t ht _ => ⟨⟨f', rfl, hqf, by rw [ht]; exact hP', hD'⟩, hS'.F ht⟩) hS'.2.2 (bfe_dec hf rfl)
    · cases hbe
    · rw [Bool.and_eq_true] at hbe
      have := beq_iff_eq.mp hbe.1
      omega
theorem bsnd (l : Launch) (D : va_G) (cy : Nat → ClassId) (base : Nat) : ∀ k, BSnd l D cy base k := by
  intro k
  induction k with
  | zero => intro y pc L st w g h; cases h
  | succ k ih =>
    intro y pc L st w g h hV p e R s m args below meth c c0 s0 f0 vx Q C h0 hr hret
    have hmono := brun_mono _ _ _ _ _ _ _ h
    rw [brun] at h
    split at h
    · rename_i hb
      cases h
      exact hret hb
    · split at h
      · cases h
      · rename_i i hf
        split at h
        · cases h
        · rename_i g1 hs
          split at h
          · rename_i hm
            obtain ⟨pc1, L1, st1, w1⟩ := g1
            have hm : w.1.length ≤ w1.1.length ∧ w.2 ≤ w1.2 := hm
            have hm2 := brun_mono _ _ _ _ _ _ _ h
            have hm2 : w1.1.length ≤ g.2.2.2.1.length ∧ w1.2 ≤ g.2.2.2.2 := hm2
            exact bo_go C hf hs hV h0 (by dsimp only; omega) (ih y pc1 L1 st1 w1 g h (bst_okV hs hV) p e R s m args below meth c c0 s0 f0 vx Q C (by omega) hr hret)
          · cases h
        · rename_i y' as pc' L' r w' hs
          split at h
          · cases h
          · rename_i a1 a2 a3 w2 hc
            have hm1 := brun_mono _ _ _ _ _ _ _ hc
            have hm1 : w.1.length ≤ w2.1.length ∧ w.2 ≤ w2.2 := hm1
            have hm2 := brun_mono _ _ _ _ _ _ _ h
            have hm2 : w2.1.length ≤ g.2.2.2.1.length ∧ w2.2 ≤ g.2.2.2.2 := hm2
            have K := ih y pc' L' r w2 g h (brun_okV _ _ _ _ _ _ _ hc hV) p e R s m args below meth c c0 s0 f0 vx Q C (by omega) hr hret
            have fin : ∀ (x kd y0 p1 p2 : Nat), i = .invokespecial x → bsi (mC y) x = some (kd, y0, p1, p2) → (kd = 3 ∨ kd = 4) → bcl y y0 pc L w (bnp y0) st = some (.inr (y', as, (pc', L', r, w'))) → BNg D cy base c0 s0 f0 vx p l e R s m args below meth c Q pc L st w := fun x kd y0 p1 p2 hi hsi hkd hb => by
              subst hi
              unfold bcl at hb
              split at hb
              · rename_i q r0 hd
                split at hb
                · rename_i hk
                  cases hb
                  have hw := bsi_ok hsi
                  have hy : y' < 213 ∧ ((mE y').2.1 = "<init>" ∧ mRt y' = none) := by
                    rcases hkd with rfl | rfl
                    · simp only [bwk, Bool.and_eq_true, decide_eq_true_eq] at hw
                      exact hw.1.1
                    · simp only [bwk, Bool.and_eq_true, decide_eq_true_eq] at hw
                      exact hw.1.1
                  exact bo_call C hf hsi hkd hd hk h0 hm1 (by omega) (fun f hD => bmet ih hy.1 hy.2 hc hV hk.2.2.2.2.2.1 f hD) K
                · cases hb
              · cases hb
            cases i
            case invokespecial x =>
              simp only [bst, bgo] at hs
              split at hs
              · split at hs
                · split at hs
                  · cases hs
                  · cases hs
                · cases hs
              · rename_i y0 p1 p2 h1
                exact fin x 3 y0 p1 p2 rfl h1 (Or.inl rfl) hs
              · rename_i y0 p1 p2 h1
                exact fin x 4 y0 p1 p2 rfl h1 (Or.inr rfl) hs
              · cases hs
            case if_icmp kk off =>
              exfalso
              cases kk <;> (simp only [bst, bgo] at hs; repeat' (first | (cases hs; done) | (split at hs)))
            all_goals
              exfalso
              simp only [bst, bgo] at hs
              repeat' (first | (cases hs; done) | (split at hs))
