/-! ===== ends, new objects, arraycopy ===== -/
section ENDS
variable {Γ : CT} {X : MX} {R : Room} {sc : Option (Nat × (Nat → Int32))} {FZ : FX} {kc ks mc ms : Nat} {w : PW} {pc : Nat} {ls : List (Option Value)} {st : List Value} {Q : Option Value → PW → Prop}
theorem r_zret {ty : FieldType} {v : Int32} (hd : decode X.2.1 pc = .ok (.ireturn, 1)) (hr : X.2.2.2.1 = some ty) (hn : narrow ty (.int v) = .int v) (hc : kc ≤ mc) (hs : ks ≤ ms) (hQ : Q (some (.int v)) w) : Rn Γ X R sc (FinM Q mc ms) kc ks w pc ls [.int v] := by
  intro p l e s m args below meth c C S H locs arr hH hL
  refine W.widen (k := mc) (n := ms) hc hs ?_
  exact W.zret (ty := ty) C.1 C.2.1 (C.2.2.2.1.trans hr) hn (fun t ht hW => ⟨some (.int v), w, rfl, hQ, by rw [ht]; exact hH.1, hH.2.1.F ht⟩) (fun q hq => hH.2.1.2.2 q hq) hd C.2.2.2.2.1
theorem r_iret {v : Int32} (hd : decode X.2.1 pc = .ok (.ireturn, 1)) (hr : X.2.2.2.1 = some .int) (hc : kc ≤ mc) (hs : ks ≤ ms) (hQ : Q (some (.int v)) w) : Rn Γ X R sc (FinM Q mc ms) kc ks w pc ls [.int v] := r_zret hd hr rfl hc hs hQ
theorem r_bret {v : Int32} (hd : decode X.2.1 pc = .ok (.ireturn, 1)) (hr : X.2.2.2.1 = some .boolean) (hv : v = 0 ∨ v = 1) (hc : kc ≤ mc) (hs : ks ≤ ms) (hQ : Q (some (.int v)) w) : Rn Γ X R sc (FinM Q mc ms) kc ks w pc ls [.int v] := r_zret hd hr (by rcases hv with rfl | rfl <;> rfl) hc hs hQ
theorem r_cret {v : Int32} {n : Nat} (hd : decode X.2.1 pc = .ok (.ireturn, 1)) (hr : X.2.2.2.1 = some .char) (hv : v = nI n) (hn : n < 65536) (hc : kc ≤ mc) (hs : ks ≤ ms) (hQ : Q (some (.int v)) w) : Rn Γ X R sc (FinM Q mc ms) kc ks w pc ls [.int v] := r_zret hd hr (by rw [hv]; exact (pk_charN hn).1) hc hs hQ
theorem r_vret (hd : decode X.2.1 pc = .ok (.return_, 1)) (hr : X.2.2.2.1 = none) (hc : kc ≤ mc) (hs : ks ≤ ms) (hQ : Q none w) : Rn Γ X R sc (FinM Q mc ms) kc ks w pc ls [] := by
  intro p l e s m args below meth c C S H locs arr hH hL
  refine W.widen (k := mc) (n := ms) hc hs ?_
  exact W.vret C.1 C.2.1 (C.2.2.2.1.trans hr) (fun t ht hW => ⟨none, w, rfl, hQ, by rw [ht]; exact hH.1, hH.2.1.F ht⟩) (fun q hq => hH.2.1.2.2 q hq) hd C.2.2.2.2.1
theorem r_lret {v : Int64} (hd : decode X.2.1 pc = .ok (.lreturn, 1)) (hr : X.2.2.2.1 = some .long) (hc : kc ≤ mc) (hs : ks ≤ ms) (hQ : Q (some (.long v)) w) : Rn Γ X R sc (FinM Q mc ms) kc ks w pc ls [.long v] := by
  intro p l e s m args below meth c C S H locs arr hH hL
  refine W.widen (k := mc) (n := ms) hc hs ?_
  exact W.lret C.1 C.2.1 (C.2.2.2.1.trans hr) (fun t ht hW => ⟨some (.long v), w, rfl, hQ, by rw [ht]; exact hH.1, hH.2.1.F ht⟩) (fun q hq => hH.2.1.2.2 q hq) hd C.2.2.2.2.1
theorem r_aret {h : Nat} {n : String} (hd : decode X.2.1 pc = .ok (.areturn, 1)) (hr : X.2.2.2.1 = some (.object n)) (hc : kc ≤ mc) (hs : ks ≤ ms) (hQ : Q (some (.ref h)) w) : Rn Γ X R sc (FinM Q mc ms) kc ks w pc ls [.ref h] := by
  intro p l e s m args below meth c C S H locs arr hH hL
  refine W.widen (k := mc) (n := ms) hc hs ?_
  exact W.aret C.1 C.2.1 (C.2.2.2.1.trans hr) (Or.inl ⟨n, rfl⟩) (Or.inr ⟨_, rfl⟩) (fun t ht hW => ⟨some (.ref h), w, rfl, hQ, by rw [ht]; exact hH.1, hH.2.1.F ht⟩) (fun q hq => hH.2.1.2.2 q hq) hd C.2.2.2.2.1
theorem r_obj {h idx : Nat} (pc' : Nat) (hd : decode X.2.1 pc = .ok (.invokespecial idx, 3)) (hp : pc + 3 = pc') (h1 : Cond.methodLink X.1 idx objectInit ∈ WT) (h2 : Cond.instanceMethod objectInit ∈ WT) (h3 : Cond.code objectInit ⟨#[0xb1]⟩ 1 none ∈ WT) (hst : stw st ≤ 8) (hR : 1 ≤ R.frames ∧ 20 ≤ R.locals) (kk : Rn Γ X R sc FZ kc ks w pc' ls st) : Rn Γ X R sc FZ kc ks w pc ls (.ref h :: st) := by
  subst hp
  intro p l e s m args below meth c C S H locs arr hH hL
  have hts := C.2.2.2.2.2.2.1
  refine W.objInit C.1 C.2.1 C.2.2.2.2.2.1 (hts _ h1) (hts _ h2) (hts _ h3) rfl (by rw [C.2.2.1]; exact hL.1) rfl hd hR.1 ?_ (kk p l e s m args below meth c C S H locs arr hH hL)
  show 2 * 0 + ((st.map (tv Γ)).map fun v => v.category).sum + 12 ≤ R.locals
  rw [stw_tv]
  omega
/-- what a 'new' links -/
def kN (own : String) (idx ci n : Nat) (fs : List Value) : Prop := ∃ (q : vw_C) (ty0 : Nat → FieldType), KCl ci q ty0 ∧ q.2.2 = n ∧ Cond.classLink own idx q.1 ∈ WT ∧ Cond.instantiable q.1 q.2.2 ∈ WT ∧ Cond.initialized q.1 ∈ WT ∧ ∀ j, j < q.2.2 → defaultValue (ty0 j) = vp_V fs j
def plain0 : Value → Bool
  | .int _ => true
  | .long _ => true
  | .null => true
  | _ => false
theorem plain_tv {Γ : CT} {fs : List Value} (h : fs.all plain0 = true) : fs.map (tv Γ) = fs := by
  induction fs with
  | nil => rfl
  | cons v l ih =>
    simp only [List.all_cons, Bool.and_eq_true] at h
    rw [List.map_cons, ih h.2]
    congr 1
    cases v <;> first | rfl | (cases h.1; done)
theorem r_new {idx ci n : Nat} {fs : List Value} (pc' : Nat) (hd : decode X.2.1 pc = .ok (.new idx, 3)) (hp : pc + 3 = pc') (hk : kN X.1 idx ci n fs) (hf : fs.all plain0 = true) (hc : kc + 1 ≤ R.cells) (hs : ks + n ≤ R.slots) (kk : Rn Γ X R sc FZ (kc + 1) (ks + n) (w ++ [oB ci fs]) pc' ls (.ref w.length :: st)) : Rn Γ X R sc FZ kc ks w pc ls st := by
  subst hp
  intro p l e s m args below meth c C S H locs arr hH hL
  obtain ⟨q, ty0, ⟨g1, g2, g3, g4⟩, rfl, hl, hi, hn, hdf⟩ := hk
  have hts := C.2.2.2.2.2.2.1
  have hKn := C.2.2.2.2.2.2.2.1.1.1 ci _ g1
  refine W.newcK C.1 C.2.1 C.2.2.2.2.2.1 (hts _ hl) (hts _ hi) (hts _ hn) rfl hd hc hs hKn.2.1 rfl fun H1 kC hkC e1 z1 o1 => ?_
  have h1 := kk p l e s m args below meth c C S H1 locs arr (hH.new (c := oB ci fs) ?_ z1 o1) hL
  · rw [hH.1.2]
    exact h1
  · refine ⟨_, g1, ?_⟩
    show t_OB H.size _ _ _ H1 (vp_V (fs.map (tv Γ)))
    rw [plain_tv hf]
    exact (u_born ty0 hts g2 hKn hkC e1 g3).to hdf
theorem r_anew {i : Int32} {idx : Nat} (pc' n : Nat) (hd : decode X.2.1 pc = .ok (.anewarray idx, 3)) (hp : pc + 3 = pc') (hl : Cond.classLink X.1 idx RG ∈ WT) (hi : i = nI n) (hn : n ≤ 60000) (hc : kc + 1 ≤ R.cells) (hs : ks + n ≤ R.slots) (kk : Rn Γ X R sc FZ (kc + 1) (ks + n) (w ++ [aG n (fun _ => none)]) pc' ls (.ref w.length :: st)) : Rn Γ X R sc FZ kc ks w pc ls (.int i :: st) := by
  subst hp
  subst hi
  intro p l e s m args below meth c C S H locs arr hH hL
  have hts := C.2.2.2.2.2.2.1
  have hn2 : n < 2 ^ 31 := Nat.lt_of_le_of_lt hn (by decide)
  have hcl : (nI n).toNatClampNeg = n := nI_clamp hn2
  refine W.anew C.1 C.2.1 C.2.2.2.2.2.1 (hts _ hl) (va_AO.use C.2.2.2.2.2.2.2.1.2.2) rfl hd rfl (nI_pos hn2) (by rw [hcl]; omega) hc (by rw [hcl]; exact hs) fun cA kA comp f1 f2 f3 f4 => ?_
  have hcA : cA = Γ.2.2 4 := by
    obtain ⟨_, _, _, _, _, k4⟩ := (C.2.2.2.2.2.2.2.1.1.2 4 _ rfl).2
    exact Option.some.inj (f1.symm.trans k4)
  subst hcA
  rw [hcl]
  generalize hH1 : H.push ({ cls := Γ.2.2 4, slots := Array.replicate n .null, vm := .none } : Cell) = H1
  have z1 : H1.size = H.size + 1 := by rw [← hH1, Array.size_push]
  have e1 : H1[H.size]? = some (arrV (Γ.2.2 4) n (fun _ => .null)) := by rw [← hH1, Array.getElem?_push_size, ← arrV_new]
  have o1 : ∀ q : Nat, q < H.size → H1[q]? = H[q]? := fun q hq => by rw [← hH1, Array.getElem?_push, if_neg (Nat.ne_of_lt hq)]
  have h1 := kk p l e s m args below meth c C S H1 locs arr (hH.new (c := aG n (fun _ => none)) e1 z1 o1) hL
  rw [hH.1.2]
  exact h1
end ENDS
