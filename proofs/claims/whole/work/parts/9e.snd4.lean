/-! the maker is sound: all steps, runs -/
theorem bMT0 (f : Nat → Nat) (cy : Nat → ClassId) (n : Nat) : bM f cy (.inl (0, n, [])) = .inl (cy 0, n, .inl (fun _ => 0)) := rfl
theorem bMT1 (f : Nat → Nat) (cy : Nat → ClassId) (n : Nat) : bM f cy (.inl (1, n, [])) = .inl (cy 1, n, .inr (.inl (fun _ => 0))) := rfl
theorem bMT2 (f : Nat → Nat) (cy : Nat → ClassId) (n : Nat) : bM f cy (.inl (2, n, [])) = .inl (cy 2, n, .inl (fun _ => 0)) := rfl
section MK4
variable {p : Program} {l : Launch} {e : Env} {R : Room} {s : State} {m : MethodId} {args : Array Value} {below : List Frame} {meth : Method} {c : Code} {Q : State → Prop}
variable {D : va_G} {cy : Nat → ClassId} {base c0 s0 : Nat} {f0 : Nat → Nat} {vx : Option Value} {y pc : Nat} {L st : List AV} {w : bD} {g : bG}
theorem bo_go {i : Instr} (C : BX D cy base y p R s m args meth c) (hf : bfe y pc = some i) (hs : bst y i pc L st w = some (.inl g)) (hV : bokV w.1) (h0 : c0 ≤ w.1.length ∧ s0 ≤ w.2) (hr : g.2.2.2.1.length - c0 ≤ R.cells ∧ g.2.2.2.2 - s0 ≤ R.slots) (K : BN D cy base c0 s0 f0 vx p l e R s m args below meth c Q g) : BNg D cy base c0 s0 f0 vx p l e R s m args below meth c Q pc L st w := by
  cases i
  case aload_n k =>
    simp only [bst, bgo] at hs
    split at hs
    · rename_i q hq
      cases hs
      exact bo_aload_n C hf hq K
    · cases hs
  case iload_n k =>
    simp only [bst, bgo] at hs
    split at hs
    · rename_i v hq
      cases hs
      exact bo_iload_n C hf hq K
    · cases hs
  case istore_n k =>
    simp only [bst, bgo] at hs
    split at hs
    · split at hs
      · rename_i hk
        cases hs
        exact bo_istore_n C hf hk.1 hk.2 K
      · cases hs
    · cases hs
  case astore_n k =>
    simp only [bst, bgo] at hs
    split at hs
    · split at hs
      · rename_i hk
        cases hs
        exact bo_astore_n C hf hk.1 hk.2 K
      · cases hs
    · cases hs
  case iinc k z =>
    simp only [bst, bgo] at hs
    split at hs
    · rename_i v hv
      split at hs
      · rename_i hk
        cases hs
        exact bo_iinc C hf hv hk.1 hk.2 K
      · cases hs
    · cases hs
  case iconst z =>
    simp only [bst, bgo] at hs
    cases hs
    exact bo_iconst C hf K
  case bipush z =>
    simp only [bst, bgo] at hs
    split at hs
    · rename_i hz
      cases hs
      exact bo_bipush C hf hz K
    · cases hs
  case sipush z =>
    simp only [bst, bgo] at hs
    split at hs
    · rename_i hz
      cases hs
      exact bo_sipush C hf hz K
    · cases hs
  case dup =>
    simp only [bst, bgo] at hs
    split at hs
    · split at hs
      · rename_i hc
        cases hs
        exact bo_dup C hf hc K
      · cases hs
    · cases hs
  case goto off =>
    simp only [bst, bgo] at hs
    split at hs
    · rename_i t ht
      cases hs
      exact bo_goto C hf ht K
    · cases hs
  case if_icmp k off =>
    cases k
    case ge =>
      simp only [bst, bgo] at hs
      split at hs
      · split at hs
        · rename_i hz
          split at hs
          · rename_i t ht
            split at hs
            · rename_i hle
              cases hs
              exact bo_icmp C hf hz.1 hz.2 ht (fun _ => K) (fun q => absurd hle q)
            · rename_i hle
              cases hs
              exact bo_icmp C hf hz.1 hz.2 ht (fun q => absurd q hle) (fun _ => K)
          · cases hs
        · cases hs
      · cases hs
    all_goals (simp only [bst] at hs; cases hs)
  case getfield x =>
    simp only [bst, bgo] at hs
    split at hs
    · rename_i q r
      split at hs
      · rename_i c' k o h1 h2
        split at hs
        · rename_i hc
          split at hs
          · rename_i v hv
            cases hs
            exact bo_getfield (fs := o.2) C hf h1 (by rw [h2, ← hc]) hv K
          · cases hs
        · cases hs
      · cases hs
    · cases hs
  case putfield x =>
    simp only [bst, bgo] at hs
    split at hs
    · rename_i v q r
      split at hs
      · rename_i c' k o h1 h2
        split at hs
        · rename_i hc
          cases hs
          exact bo_putfield (fs := o.2) C hf h1 (by rw [h2, ← hc.1]) hc.2.1 hc.2.2.1 hc.2.2.2.1 K
        · cases hs
      · cases hs
    · cases hs
  case iastore =>
    simp only [bst, bgo] at hs
    split at hs
    · rename_i v a q r
      split at hs
      · rename_i o h1
        split at hs
        · rename_i hc
          cases hs
          exact bo_iastore (n := o.2.1) (u := o.2.2) C hf (by rw [h1, ← hc.1]) hc.2 K
        · cases hs
      · cases hs
    · cases hs
  case aastore =>
    simp only [bst, bgo] at hs
    split at hs
    · rename_i v a q r
      split at hs
      · rename_i o1 o2 h1 h2
        split at hs
        · rename_i hc
          cases hs
          exact bo_aastore (T := o1.1) (n := o1.2.1) (u := o1.2.2) (ci := o2.1) (fs := o2.2) C hf hc.1 h1 h2 hc.2.1 K
        · cases hs
      · cases hs
    · cases hs
  case newarray t =>
    simp only [bst, bgo] at hs
    split at hs
    · rename_i a r
      split at hs
      · split at hs
        · rename_i hc
          cases hs
          have hr : (w.1 ++ [_]).length - c0 ≤ R.cells ∧ _ := hr
          rw [List.length_append] at hr
          exact bo_newa (T := 0) (ty := .int) (fun n => (n, .inl (fun _ => 0))) C hf rfl (inTB (wP_mem bAC_ok.1) rfl) rfl (fun f n => bMT0 f cy n) (fun n cA => rfl) (by decide) hc.1 hV hc.2 h0 hr K
        · cases hs
      · split at hs
        · rename_i hc
          cases hs
          have hr : (w.1 ++ [_]).length - c0 ≤ R.cells ∧ _ := hr
          rw [List.length_append] at hr
          exact bo_newa (T := 1) (ty := .long) (fun n => (n, .inr (.inl (fun _ => 0)))) C hf rfl (inTB (wP_mem bAC_ok.2.1) rfl) rfl (fun f n => bMT1 f cy n) (fun n cA => rfl) (by decide) hc.1 hV hc.2 h0 hr K
        · cases hs
      · split at hs
        · rename_i hc
          cases hs
          have hr : (w.1 ++ [_]).length - c0 ≤ R.cells ∧ _ := hr
          rw [List.length_append] at hr
          exact bo_newa (T := 2) (ty := .boolean) (fun n => (n, .inl (fun _ => 0))) C hf rfl (inTB (wP_mem bAC_ok.2.2.1) rfl) rfl (fun f n => bMT2 f cy n) (fun n cA => rfl) (by decide) hc.1 hV hc.2 h0 hr K
        · cases hs
      · cases hs
    · cases hs
  case anewarray x =>
    simp only [bst, bgo] at hs
    split at hs
    · rename_i a r T p1 p2 h1
      split at hs
      · rename_i hc
        cases hs
        have hr : (w.1 ++ [_]).length - c0 ≤ R.cells ∧ _ := hr
        rw [List.length_append] at hr
        exact bo_anewa C hf h1 hc.1 hV hc.2 h0 hr K
      · cases hs
    · cases hs
  case new x =>
    simp only [bst, bgo] at hs
    split at hs
    · rename_i c' p1 p2 h1
      split at hs
      · rename_i hc
        cases hs
        have hr : (w.1 ++ [_]).length - c0 ≤ R.cells ∧ _ := hr
        rw [List.length_append] at hr
        exact bo_new C hf h1 hV hc h0 hr K
      · cases hs
    · cases hs
  case invokespecial x =>
    simp only [bst, bgo] at hs
    split at hs
    · rename_i a p1 p2 h1
      split at hs
      · split at hs
        · rename_i hc
          cases hs
          exact bo_objI C hf h1 hc K
        · cases hs
      · cases hs
    · unfold bcl at hs
      split at hs
      · split at hs
        · cases hs
        · cases hs
      · cases hs
    · unfold bcl at hs
      split at hs
      · split at hs
        · cases hs
        · cases hs
      · cases hs
    · cases hs
  all_goals (simp only [bst] at hs; cases hs)
end MK4
