/-! ===== words of the contracts ===== -/
theorem gs_ne {w : PW} {h j : Nat} {c c' : PC} (hne : h ≠ j) (hw : w[j]? = some c') : (w.set h c)[j]? = some c' := by rw [List.getElem?_set_ne hne]; exact hw
theorem gs_eq {w : PW} {h : Nat} {c : PC} (hw : (w[h]?).isSome = true) : (w.set h c)[h]? = some c := by
  obtain ⟨c0, hc⟩ := Option.isSome_iff_exists.mp hw
  have := (List.getElem?_eq_some_iff.mp hc).1
  rw [List.getElem?_set_self this]
theorem gs_is {w : PW} {h j : Nat} {c : PC} (hw : (w[j]?).isSome = true) : ((w.set h c)[j]?).isSome = true := by
  by_cases e : h = j
  · subst e
    rw [gs_eq hw]
    rfl
  · rw [List.getElem?_set_ne e]
    exact hw
theorem is_of {w : PW} {h : Nat} {c : PC} (hw : w[h]? = some c) : (w[h]?).isSome = true := by rw [hw]; rfl
def rI (v : Int32) (w : PW) : Option Value → PW → Prop := fun r w1 => r = some (.int v) ∧ w1 = w
def rJ (v : Int64) (w : PW) : Option Value → PW → Prop := fun r w1 => r = some (.long v) ∧ w1 = w
def rR (h : Nat) (w : PW) : Option Value → PW → Prop := fun r w1 => r = some (.ref h) ∧ w1 = w
def rV (w : PW) : Option Value → PW → Prop := fun r w1 => r = none ∧ w1 = w
def bI (b : Bool) : Int32 := if b then 1 else 0
theorem bI01 (b : Bool) : bI b = 0 ∨ bI b = 1 := by cases b <;> simp [bI]
theorem bI_t {b : Bool} : bI b = 1 ↔ b = true := by cases b <;> simp [bI]
theorem bI_0 {b : Bool} : bI b = 0 ↔ b = false := by cases b <;> simp [bI]
section CONT
variable {Γ : CT} {X : MX} {R : Room} {sc : Option (Nat × (Nat → Int32))} {FZ : FX} {kc ks : Nat} {w w1 : PW} {pc : Nat} {ls : List (Option Value)} {st stk : List Value}
theorem qI {v : Int32} (k : Rn Γ X R sc FZ kc ks w1 pc ls (.int v :: st)) : ∀ r w2, rI v w1 r w2 → Rn Γ X R sc FZ kc ks w2 pc ls (r.toList ++ st) := by
  rintro _ _ ⟨rfl, rfl⟩
  exact k
theorem qJ {v : Int64} (k : Rn Γ X R sc FZ kc ks w1 pc ls (.long v :: st)) : ∀ r w2, rJ v w1 r w2 → Rn Γ X R sc FZ kc ks w2 pc ls (r.toList ++ st) := by
  rintro _ _ ⟨rfl, rfl⟩
  exact k
theorem qR {v : Nat} (k : Rn Γ X R sc FZ kc ks w1 pc ls (.ref v :: st)) : ∀ r w2, rR v w1 r w2 → Rn Γ X R sc FZ kc ks w2 pc ls (r.toList ++ st) := by
  rintro _ _ ⟨rfl, rfl⟩
  exact k
theorem qV (k : Rn Γ X R sc FZ kc ks w1 pc ls st) : ∀ r w2, rV w1 r w2 → Rn Γ X R sc FZ kc ks w2 pc ls (r.toList ++ st) := by
  rintro _ _ ⟨rfl, rfl⟩
  exact k
theorem r_callS0 {idx d : Nat} {y : MethodName} {Xc : MX} {As : List Value} {Q1 : Option Value → PW → Prop} (pc' : Nat) (hd : decode X.2.1 pc = .ok (.invokestatic idx, 3)) (hp : pc + 3 = pc') (hC : Cl Γ y Xc d 0 0 As w Q1) (hk : kS X.1 idx y) (hm : kM y Xc As.length) (hs : As.reverse ++ st = stk) (hroom : d < R.frames ∧ 19 + Xc.2.2.1 + 40 * d ≤ R.locals) (hst : stw st ≤ 8) (hcs : kc ≤ R.cells ∧ ks ≤ R.slots) (kk : ∀ (r : Option Value) (w1 : PW), Q1 r w1 → Rn Γ X R sc FZ kc ks w1 pc' ls (r.toList ++ st)) : Rn Γ X R sc FZ kc ks w pc ls stk := r_callS pc' hd hp hC hk hm hs hroom hst hcs kk
theorem r_callSN0 {idx d : Nat} {y : MethodName} {Xc : MX} {As : List Value} {Q1 : Option Value → PW → Prop} (pc' : Nat) (hd : decode X.2.1 pc = .ok (.invokestatic idx, 3)) (hp : pc + 3 = pc') (hC : Cl Γ y Xc d 0 0 As w Q1) (hk : kSN X.1 idx y) (hm : kM y Xc As.length) (hs : As.reverse ++ st = stk) (hroom : d < R.frames ∧ 19 + Xc.2.2.1 + 40 * d ≤ R.locals) (hst : stw st ≤ 8) (hcs : kc ≤ R.cells ∧ ks ≤ R.slots) (kk : ∀ (r : Option Value) (w1 : PW), Q1 r w1 → Rn Γ X R sc FZ kc ks w1 pc' ls (r.toList ++ st)) : Rn Γ X R sc FZ kc ks w pc ls stk := r_callSN pc' hd hp hC hk hm hs hroom hst hcs kk
theorem r_callV0 {h ci : Nat} {fs : List Value} {idx d : Nat} {y : MethodName} {Xc : MX} {As : List Value} {Q1 : Option Value → PW → Prop} (pc' : Nat) (hd : decode X.2.1 pc = .ok (.invokevirtual idx, 3)) (hp : pc + 3 = pc') (hC : Cl Γ y Xc d 0 0 (.ref h :: As) w Q1) (hk : kV X.1 idx y) (hm : kM y Xc As.length) (hs : As.reverse ++ .ref h :: st = stk) (hw : w[h]? = some (oB ci fs)) (hcl : (vwCl[ci]?).map (fun q => q.1) = some y.cls) (hroom : d < R.frames ∧ 19 + Xc.2.2.1 + 40 * d ≤ R.locals) (hst : stw st ≤ 8) (hcs : kc ≤ R.cells ∧ ks ≤ R.slots) (kk : ∀ (r : Option Value) (w1 : PW), Q1 r w1 → Rn Γ X R sc FZ kc ks w1 pc' ls (r.toList ++ st)) : Rn Γ X R sc FZ kc ks w pc ls stk := r_callV pc' hd hp hC hk hm hs hw hcl hroom hst hcs kk
end CONT
section CONT2
variable {Γ : CT} {X : MX} {R : Room} {sc : Option (Nat × (Nat → Int32))} {FZ : FX} {kc ks : Nat} {w w1 : PW} {pc : Nat} {ls : List (Option Value)} {st stk : List Value}
def rN (P : PW → Prop) : Option Value → PW → Prop := fun r w1 => r = none ∧ P w1
def rP (v : Int32) (P : PW → Prop) : Option Value → PW → Prop := fun r w1 => r = some (.int v) ∧ P w1
def rRP (v : Nat) (P : PW → Prop) : Option Value → PW → Prop := fun r w1 => r = some (.ref v) ∧ P w1
theorem qN {P : PW → Prop} (k : ∀ w2, P w2 → Rn Γ X R sc FZ kc ks w2 pc ls st) : ∀ r w2, rN P r w2 → Rn Γ X R sc FZ kc ks w2 pc ls (r.toList ++ st) := by
  rintro _ w2 ⟨rfl, h⟩
  exact k w2 h
theorem qP {v : Int32} {P : PW → Prop} (k : ∀ w2, P w2 → Rn Γ X R sc FZ kc ks w2 pc ls (.int v :: st)) : ∀ r w2, rP v P r w2 → Rn Γ X R sc FZ kc ks w2 pc ls (r.toList ++ st) := by
  rintro _ w2 ⟨rfl, h⟩
  exact k w2 h
theorem qRP {v : Nat} {P : PW → Prop} (k : ∀ w2, P w2 → Rn Γ X R sc FZ kc ks w2 pc ls (.ref v :: st)) : ∀ r w2, rRP v P r w2 → Rn Γ X R sc FZ kc ks w2 pc ls (r.toList ++ st) := by
  rintro _ w2 ⟨rfl, h⟩
  exact k w2 h
theorem HX.sw {h : Nat} {c0 c : PC} {s : State} {H : Heap} {locs : List Loc} (hw : w[h]? = some c0) (hH : HX Γ w s H locs) (he : va_at Γ.2.1 vwCl (Γ.1.1 + h, tE Γ c) H) : HX Γ (w.set h c) s H locs :=
  ⟨⟨tW_set ▸ hH.1.1.set (tW_D Γ w) (tW_get hw) he (fun _ _ => rfl), by rw [hH.1.2, List.length_set]⟩, hH.2.1, hH.2.2⟩
/-- only the places below its length matter of an array -/
theorem r_swI {h n : Nat} {f g : Nat → Int32} (hw : w[h]? = some (aI n f)) (he : ∀ k, k < n → f k = g k) (k : Rn Γ X R sc FZ kc ks (w.set h (aI n g)) pc ls st) : Rn Γ X R sc FZ kc ks w pc ls st := by
  intro p l e s m args below meth c C S H locs arr hH hL
  refine k p l e s m args below meth c C S H locs arr (hH.sw hw ?_) hL
  refine (hH.1.1 h _ (tW_get hw) : H[_]? = some (arrV (Γ.2.2 0) n (fun j => .int (f j)))).trans ?_
  exact congrArg some (arrV_ext fun k hk => congrArg Value.int (he k hk))
theorem r_swL {h n : Nat} {f g : Nat → Int64} (hw : w[h]? = some (aL n f)) (he : ∀ k, k < n → f k = g k) (k : Rn Γ X R sc FZ kc ks (w.set h (aL n g)) pc ls st) : Rn Γ X R sc FZ kc ks w pc ls st := by
  intro p l e s m args below meth c C S H locs arr hH hL
  refine k p l e s m args below meth c C S H locs arr (hH.sw hw ?_) hL
  refine (hH.1.1 h _ (tW_get hw) : H[_]? = some (arrV (Γ.2.2 3) n (fun j => .long (f j)))).trans ?_
  exact congrArg some (arrV_ext fun k hk => congrArg Value.long (he k hk))
end CONT2
theorem ix_of {x : Int32} {n : Nat} (h0 : ¬ x < 0) (h1 : ¬ nI n ≤ x) (hn : n < 2147483648) : ∃ j : Nat, j < n ∧ x = nI j := by
  rcases pk_ix x hn with h | h | h
  · exact absurd h h0
  · exact absurd h h1
  · exact h
