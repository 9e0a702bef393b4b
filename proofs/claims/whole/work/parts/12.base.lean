/-! ===== words of the contracts ===== -/
theorem gs_ne {w : PW} {h j : Nat} {c c' : PC} (hne : h ≠ j) (hw : w[j]? = some c') : (w.set h c)[j]? = some c' := by rw [List.getElem?_set_ne hne]; exact hw
theorem gs_eq {w : PW} {h : Nat} {c c0 : PC} (hw : w[h]? = some c0) : (w.set h c)[h]? = some c := by
  have := (List.getElem?_eq_some_iff.mp hw).1
  rw [List.getElem?_set_self this]
def rI (v : Int32) (w : PW) : Option Value → PW → Prop := fun r w1 => r = some (.int v) ∧ w1 = w
def rJ (v : Int64) (w : PW) : Option Value → PW → Prop := fun r w1 => r = some (.long v) ∧ w1 = w
def rR (h : Nat) (w : PW) : Option Value → PW → Prop := fun r w1 => r = some (.ref h) ∧ w1 = w
def rV (w : PW) : Option Value → PW → Prop := fun r w1 => r = none ∧ w1 = w
def bI (b : Bool) : Int32 := if b then 1 else 0
theorem bI01 (b : Bool) : bI b = 0 ∨ bI b = 1 := by cases b <;> simp [bI]
theorem bI_t {b : Bool} : bI b = 1 ↔ b = true := by cases b <;> simp [bI]
theorem bI_0 {b : Bool} : bI b = 0 ↔ b = false := by cases b <;> simp [bI]
section CONT
variable {Γ : CT} {X : MX} {R : Room} {sc : Option (Nat × (Nat → Int32))} {FZ : FX} {kc ks : Nat} {w w1 : PW} {pc : Nat} {ls : List (Option Value)} {st stk : List Value}
theorem qI {v : Int32} (k : Rn Γ X R sc FZ kc ks w1 pc ls (.int v :: st)) : ∀ r w2, rI v w1 r w2 → Rn Γ X R sc FZ kc ks w2 pc ls (r.toList ++ st) := by
  rintro _ _ ⟨rfl, rfl⟩
  exact k
theorem qJ {v : Int64} (k : Rn Γ X R sc FZ kc ks w1 pc ls (.long v :: st)) : ∀ r w2, rJ v w1 r w2 → Rn Γ X R sc FZ kc ks w2 pc ls (r.toList ++ st) := by
  rintro _ _ ⟨rfl, rfl⟩
  exact k
theorem qR {v : Nat} (k : Rn Γ X R sc FZ kc ks w1 pc ls (.ref v :: st)) : ∀ r w2, rR v w1 r w2 → Rn Γ X R sc FZ kc ks w2 pc ls (r.toList ++ st) := by
  rintro _ _ ⟨rfl, rfl⟩
  exact k
theorem qV (k : Rn Γ X R sc FZ kc ks w1 pc ls st) : ∀ r w2, rV w1 r w2 → Rn Γ X R sc FZ kc ks w2 pc ls (r.toList ++ st) := by
  rintro _ _ ⟨rfl, rfl⟩
  exact k
theorem r_callS0 {idx d : Nat} {y : MethodName} {Xc : MX} {As : List Value} {Q1 : Option Value → PW → Prop} (pc' : Nat) (hd : decode X.2.1 pc = .ok (.invokestatic idx, 3)) (hp : pc + 3 = pc') (hC : Cl Γ y Xc d 0 0 As w Q1) (hk : kS X.1 idx y) (hm : kM y Xc As.length) (hs : As.reverse ++ st = stk) (hroom : d < R.frames ∧ 19 + Xc.2.2.1 + 40 * d ≤ R.locals) (hst : stw st ≤ 8) (hcs : kc ≤ R.cells ∧ ks ≤ R.slots) (kk : ∀ (r : Option Value) (w1 : PW), Q1 r w1 → Rn Γ X R sc FZ kc ks w1 pc' ls (r.toList ++ st)) : Rn Γ X R sc FZ kc ks w pc ls stk := r_callS pc' hd hp hC hk hm hs hroom hst hcs kk
theorem r_callSN0 {idx d : Nat} {y : MethodName} {Xc : MX} {As : List Value} {Q1 : Option Value → PW → Prop} (pc' : Nat) (hd : decode X.2.1 pc = .ok (.invokestatic idx, 3)) (hp : pc + 3 = pc') (hC : Cl Γ y Xc d 0 0 As w Q1) (hk : kSN X.1 idx y) (hm : kM y Xc As.length) (hs : As.reverse ++ st = stk) (hroom : d < R.frames ∧ 19 + Xc.2.2.1 + 40 * d ≤ R.locals) (hst : stw st ≤ 8) (hcs : kc ≤ R.cells ∧ ks ≤ R.slots) (kk : ∀ (r : Option Value) (w1 : PW), Q1 r w1 → Rn Γ X R sc FZ kc ks w1 pc' ls (r.toList ++ st)) : Rn Γ X R sc FZ kc ks w pc ls stk := r_callSN pc' hd hp hC hk hm hs hroom hst hcs kk
theorem r_callV0 {h ci : Nat} {fs : List Value} {idx d : Nat} {y : MethodName} {Xc : MX} {As : List Value} {Q1 : Option Value → PW → Prop} (pc' : Nat) (hd : decode X.2.1 pc = .ok (.invokevirtual idx, 3)) (hp : pc + 3 = pc') (hC : Cl Γ y Xc d 0 0 (.ref h :: As) w Q1) (hk : kV X.1 idx y) (hm : kM y Xc As.length) (hs : As.reverse ++ .ref h :: st = stk) (hw : w[h]? = some (oB ci fs)) (hcl : (vwCl[ci]?).map (fun q => q.1) = some y.cls) (hroom : d < R.frames ∧ 19 + Xc.2.2.1 + 40 * d ≤ R.locals) (hst : stw st ≤ 8) (hcs : kc ≤ R.cells ∧ ks ≤ R.slots) (kk : ∀ (r : Option Value) (w1 : PW), Q1 r w1 → Rn Γ X R sc FZ kc ks w1 pc' ls (r.toList ++ st)) : Rn Γ X R sc FZ kc ks w pc ls stk := r_callV pc' hd hp hC hk hm hs hw hcl hroom hst hcs kk
end CONT
