section SND3
variable {l : Launch} {D : va_G} {ad : Nat → Int → Nat} {cy : Nat → ClassId} {A : Nat → Prop} {b n : Nat} {xs : Nat → Int32}
theorem stp_fin {y pc : Nat} {ins : Instr} {L st : List AV} {σ σ' : aM} {v : Option AV} (hs : stp y ins pc L st σ = some (.inr (.inl (v, σ')))) : σ' = σ := by
  have nocall : ∀ x K0, call y x pc K0 L st σ = some (.inr (.inl (v, σ'))) → False := by
    intro x K0 hs
    unfold call at hs
    repeat' (first | (cases hs; done) | (split at hs))
  cases ins
  case invokevirtual x => exact (nocall x 0 hs).elim
  case invokestatic x => exact (nocall x 1 hs).elim
  all_goals
    simp only [stp] at hs
    repeat' (first | (cases hs; done) | (cases hs; rfl) | (unfold stS at hs) | (unfold ldA at hs) | (unfold brn at hs) | (split at hs))
theorem stp_lay {y pc y' : Nat} {ins : Instr} {L st as : List AV} {σ : aM} {g : aG} (hs : stp y ins pc L st σ = some (.inr (.inr (y', as, g)))) : (lay as).length ≤ mL y' := by
  have key : ∀ x K0, call y x pc K0 L st σ = some (.inr (.inr (y', as, g))) → (lay as).length ≤ mL y' := by
    intro x K0 hs
    unfold call at hs
    split at hs
    · split at hs
      · split at hs
        · split at hs
          · rename_i hc
            cases hs
            exact (okC hc.2.2).2.2.2.2
          · cases hs
        · cases hs
      · cases hs
    · split at hs
      · rename_i hc
        cases hs
        exact (okC hc.2.2).2.2.2.2
      · cases hs
    · split at hs
      · rename_i hc
        cases hs
        exact (okC hc.2.2).2.2.2.2
      · cases hs
    all_goals repeat' (first | (cases hs; done) | (split at hs))
  cases ins
  case invokevirtual x => exact key x 0 hs
  case invokestatic x => exact key x 1 hs
  all_goals
    exfalso
    simp only [stp] at hs
    repeat' (first | (cases hs; done) | (unfold stS at hs) | (unfold ldA at hs) | (unfold brn at hs) | (split at hs))
def SndAt (l : Launch) (D : va_G) (ad : Nat → Int → Nat) (cy : Nat → ClassId) (A : Nat → Prop) (b n : Nat) (xs : Nat → Int32) (k : Nat) : Prop := ∀ (y pc : Nat) (L st : List AV) (σ : aM) (v : Option AV) (σ' : aM), runF k y (pc, L, st, σ) = some (v, σ') → okA L → okA st → okM σ → Sc σ n xs → ∀ (p : Program) (e : Env) (R : Room) (s : State) (m : MethodId) (args : Array Value) (below : List Frame) (meth : Method) (c : Code) (cells slots : Nat) (Q : State → Prop), Cx D ad cy A b n xs y p R s m args c cells slots → (∀ (pc' : Nat) (L' st' : List AV) (i : Instr), fetch y pc' = some i → stp y i pc' L' st' σ' = some (.inr (.inl (v, σ'))) → Nx D ad cy A p l e R s m args below meth c cells slots Q (pc', L', st', σ')) → Nx D ad cy A p l e R s m args below meth c cells slots Q (pc, L, st, σ)
theorem met_of {k : Nat} (hS : SndAt l D ad cy A b n xs k) {y : Nat} {as : List AV} {σ : aM} {v : Option AV} {σ' : aM} (hy : y < 213) (h : runF k y (0, lay0 y as, [], σ) = some (v, σ')) (hA : okA as) (hM : okM σ) (hSc : Sc σ n xs) (hap : Apart A ad) (hsb : ad 34 0 = b) (hbA : ¬ A b) (hn : n < 2 ^ 31) (hlay : (lay as).length ≤ mL y) : MetOf l D ad cy A b n xs y as σ v σ' := by
  refine Met.ofW (cc := mCd y) (maxL := mL y) (ret := mRt y) (mNm_ok hy).1 rfl ?_
  intro p e s m args below meth c s₁ B hml hv
  obtain ⟨rfl, hP, hK, hN, hX, hbl⟩ := hv
  have hx := B.exec
  have hb := B.bytes
  have hr := B.returns
  have hts := atoms_spec (ws := mWs y) B.pre
  have hown : s.vm.findClass (cN (mC y)) = some m.cls := findClass_of_methodNamed B.named
  have hlocks := B.notSynchronized
  rw [lg_entry_eq]
  have C : Cx D ad cy A b n xs y p (headSpec (mWs y) (mRm y)).room s m (as.map (cv ad)).toArray c 0 0 := ⟨hx, hb, hml, hown, fun w hw => hts w (List.mem_cons_of_mem _ hw), hK, hN, hap, ⟨Nat.le_refl _, Nat.le_refl _⟩, ⟨Nat.zero_le _, Nat.zero_le _⟩, hsb, hX, hbl, hbA, hn⟩
  refine hS y 0 _ [] σ v σ' h (lay0_ok hA) okA_nil hM hSc p e _ s m _ below meth c 0 0 _ C ?_ s.heap [] _ hP va_S.rf (LR_entry hlay)
  intro pc' L' st' i hf hs H locs ls hP' hS' hl'
  have hq : ∀ t : State, t.heap = H → mQc D ad cy A v σ' (as.map (cv ad)).toArray s (.returned (v.map (cv ad))) t := fun t ht => ⟨rfl, by rw [ht]; exact hP', hS'.F ht⟩
  cases i
  case ireturn =>
    simp only [stp] at hs
    split at hs
    · split at hs
      · rename_i hrt
        cases hs
        exact W.iret hx hb (hr.trans hrt) (fun t ht _ => hq t ht) hS'.2.2 (fetch_dec hf rfl (by decide))
      · rename_i hrt
        split at hs
        · rename_i hB
          cases hs
          exact W.zret hx hb (hr.trans hrt) (narB hB) (fun t ht _ => hq t ht) hS'.2.2 (fetch_dec hf rfl (by decide))
        · cases hs
      · cases hs
    · cases hs
  case lreturn =>
    simp only [stp] at hs
    split at hs
    · split at hs
      · rename_i hrt
        cases hs
        exact W.lret hx hb (hr.trans hrt) (fun t ht _ => hq t ht) hS'.2.2 (fetch_dec hf rfl (by decide))
      · cases hs
    · cases hs
  case areturn =>
    simp only [stp] at hs
    split at hs
    · rename_i q
      split at hs
      · rename_i hrt
        cases hs
        exact W.aret hx hb (hr.trans hrt) (Or.inl ⟨_, rfl⟩) (by cases q with | none => exact Or.inl rfl | some q => exact Or.inr ⟨_, rfl⟩) (fun t ht _ => hq t ht) hS'.2.2 (fetch_dec hf rfl (by decide))
      · cases hs
    · cases hs
  case return_ =>
    simp only [stp] at hs
    split at hs
    · split at hs
      · rename_i hrt
        cases hs
        exact W.vret hx hb (hr.trans hrt) (fun t ht _ => hq t ht) hS'.2.2 (fetch_dec hf rfl (by decide))
      · cases hs
    · cases hs
  case invokevirtual x =>
    exfalso
    simp only [stp] at hs
    unfold call at hs
    repeat' (first | (cases hs; done) | (split at hs))
  case invokestatic x =>
    exfalso
    simp only [stp] at hs
    unfold call at hs
    repeat' (first | (cases hs; done) | (split at hs))
  all_goals
    exfalso
    simp only [stp] at hs
    repeat' (first | (cases hs; done) | (unfold stS at hs) | (unfold ldA at hs) | (unfold brn at hs) | (split at hs))
/-- THE SOUNDNESS of the small machine -/
theorem sound (hap : Apart A ad) (hsb : ad 34 0 = b) (hbA : ¬ A b) (hn : n < 2 ^ 31) : ∀ k, SndAt l D ad cy A b n xs k := by
  intro k
  induction k with
  | zero => intro y pc L st σ v σ' h; cases h
  | succ k ih =>
    intro y pc L st σ v σ' h hL hst hM hSc p e R s m args below meth c cells slots Q C hret
    rw [runF] at h
    cases hf : fetch y pc with
    | none => rw [hf] at h; cases h
    | some i =>
      rw [hf] at h
      dsimp only at h
      cases hs : stp y i pc L st σ with
      | none => rw [hs] at h; cases h
      | some q =>
        rw [hs] at h
        have hq := stp_ok hL hst hM hs
        obtain ⟨pc', L', st', σ1⟩ | ⟨v', σ1⟩ | ⟨y', as, pc', L', r, σ1⟩ := q
        · obtain ⟨h1, h2, h3, h4⟩ := hq
          exact so_go C hL hst hM hSc hf hs (ih y pc' L' st' σ1 v σ' h h1 h2 h3 (hSc.to h4) p e R s m args below meth c cells slots Q C hret)
        · cases h
          have e1 := stp_fin hs
          subst e1
          exact hret pc L st i hf hs
        · obtain ⟨h0, h1, h2, h3, rfl⟩ := hq
          dsimp only at h
          cases hc : runF k y' (0, lay0 y' as, [], σ1) with
          | none => rw [hc] at h; cases h
          | some p' =>
            obtain ⟨w, σ2⟩ := p'
            rw [hc] at h
            obtain ⟨g1, g2, g3⟩ := run_ok _ _ _ _ _ _ _ _ hc (lay0_ok h1) okA_nil hM
            have hMet := met_of ih h0 hc h1 hM hSc hap hsb hbA hn (stp_lay hs)
            refine so_cl C hst hf hs hMet (ih y pc' L' _ σ2 v σ' h h2 ?_ g2 (hSc.to g3) p e R s m args below meth c cells slots Q C hret)
            intro u hu
            rcases List.mem_append.mp hu with hu | hu
            · exact g1 u (Option.mem_toList.mp hu)
            · exact h3 u hu
/-- what a walk may take of a run that comes to an end -/
theorem sound_ev (hap : Apart A ad) (hsb : ad 34 0 = b) (hbA : ¬ A b) (hn : n < 2 ^ 31) {y pc : Nat} {L st : List AV} {σ : aM} {v : Option AV} {σ' : aM} (h : ev y pc L st σ = some (v, σ')) (hL : okA L) (hst : okA st) (hM : okM σ) (hSc : Sc σ n xs) {p : Program} {e : Env} {R : Room} {s : State} {m : MethodId} {args : Array Value} {below : List Frame} {meth : Method} {c : Code} {cells slots : Nat} {Q : State → Prop} (C : Cx D ad cy A b n xs y p R s m args c cells slots) (hret : ∀ (pc' : Nat) (L' st' : List AV) (i : Instr), fetch y pc' = some i → stp y i pc' L' st' σ' = some (.inr (.inl (v, σ'))) → Nx D ad cy A p l e R s m args below meth c cells slots Q (pc', L', st', σ')) : Nx D ad cy A p l e R s m args below meth c cells slots Q (pc, L, st, σ) := by
  obtain ⟨k, hk⟩ := ev_iff.mp h
  exact sound hap hsb hbA hn k y pc L st σ v σ' hk hL hst hM hSc p e R s m args below meth c cells slots Q C hret
end SND3
