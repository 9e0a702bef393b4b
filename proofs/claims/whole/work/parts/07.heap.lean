/-! ===== rules over cells, calls, ends ===== -/
def pv : FieldType → Value → Bool
  | .int, .int _ => true
  | .long, .long _ => true
  | .object _, .ref _ => true
  | .object _, .null => true
  | .array _, .ref _ => true
  | .array _, .null => true
  | _, _ => false
theorem pv_ok {Γ : CT} {ty : FieldType} {v : Value} (h : pv ty v = true) : narrow ty (tv Γ v) = tv Γ v ∧ fits ty (tv Γ v) = true := by
  cases ty <;> cases v <;> first | (cases h; done) | exact ⟨rfl, rfl⟩
def KCl (ci : Nat) (q : vw_C) (ty0 : Nat → FieldType) : Prop := vwCl[ci]? = some q ∧ (∀ w ∈ u_ws q.1 q.2.1 q.2.2, w ∈ WT) ∧ (∀ k, k < q.2.2 → parseFieldDescriptor (q.2.1 k).2.2.1 = some (ty0 k)) ∧ ∀ a, a < q.2.2 → ∀ b, b < q.2.2 → a ≠ b → (q.2.1 a).2.1 ≠ (q.2.1 b).2.1
/-- what a field instruction links: the class by its place, the field by its slot, its type, whether it is final -/
def FL (own : String) (idx ci k : Nat) (ty : FieldType) (fin : Bool) : Prop := ∃ (q : vw_C) (ty0 : Nat → FieldType), KCl ci q ty0 ∧ k < q.2.2 ∧ Cond.fieldLink own idx (q.2.1 k).1 (q.2.1 k).2.1 (q.2.1 k).2.2.1 ∈ WT ∧ ty0 k = ty ∧ (q.2.1 k).2.2.2 = fin ∧ (fin = true → (q.2.1 k).1 = own)
def FLr (own : String) (idx ci k : Nat) : Prop := ∃ (q : vw_C) (ty0 : Nat → FieldType), KCl ci q ty0 ∧ k < q.2.2 ∧ Cond.fieldLink own idx (q.2.1 k).1 (q.2.1 k).2.1 (q.2.1 k).2.2.1 ∈ WT
theorem FL.r {own : String} {idx ci k : Nat} {ty : FieldType} {fin : Bool} (h : FL own idx ci k ty fin) : FLr own idx ci k := by
  obtain ⟨q, ty0, h1, h2, h3, -⟩ := h
  exact ⟨q, ty0, h1, h2, h3⟩
def rf : Option Nat → Value
  | some h => .ref h
  | none => .null
theorem rf_tv (Γ : CT) (o : Option Nat) : tv Γ (rf o) = va_rf (o.map (Γ.1.1 + ·)) := by cases o <;> rfl
theorem HX.up {Γ : CT} {w : PW} {s : State} {H H1 : Heap} {locs : List Loc} {h j : Nat} {c0 c : PC} (hw : w[h]? = some c0) (hH : HX Γ w s H locs) (he : va_at Γ.2.1 vwCl (Γ.1.1 + h, tE Γ c) H1) (z : H1.size = H.size) (oq : ∀ q : Nat, q ≠ Γ.1.1 + h → H1[q]? = H[q]?) : HX Γ (w.set h c) s H1 (locs ++ [⟨Γ.1.1 + h, j⟩]) :=
  ⟨⟨tW_set ▸ hH.1.1.set (tW_D Γ w) (tW_get hw) he oq, by rw [z, hH.1.2, List.length_set]⟩, hH.2.1.put z oq (Nat.le_add_right _ _), hH.2.2⟩
theorem HX.new {Γ : CT} {w : PW} {s : State} {H H1 : Heap} {locs : List Loc} {c : PC} (hH : HX Γ w s H locs) (he : va_at Γ.2.1 vwCl (H.size, tE Γ c) H1) (z : H1.size = H.size + 1) (oq : ∀ q : Nat, q < H.size → H1[q]? = H[q]?) : HX Γ (w ++ [c]) s H1 locs := by
  have e : H.size = Γ.1.1 + w.length := hH.1.2
  refine ⟨⟨?_, by rw [z, e, List.length_append]; rfl⟩, ⟨Nat.le_trans hH.2.1.1 (by omega), fun q h1 h2 => (oq q (Nat.lt_of_lt_of_le h1 hH.2.1.1)).trans (hH.2.1.2.1 q h1 h2), hH.2.1.2.2⟩, hH.2.2⟩
  rw [← tW_push, ← e]
  refine va_P.app (hH.1.1.kept fun k q hk => oq q.1 ((hH.1.1 k q hk).lt)) (fun k q hk => ?_)
  have hz : k < 1 := (List.getElem?_eq_some_iff.mp hk).1
  rw [show k = 0 by omega] at hk
  cases hk
  exact he
theorem nI_vp {i : Int32} {j n : Nat} (hi : i = nI j) (hj : j < n) (hn : n < 2147483648) : vp_in i n := by rw [hi]; exact vp_in_nI hj hn
theorem nI_cl {i : Int32} {j n : Nat} (hi : i = nI j) (hj : j < n) (hn : n < 2147483648) : i.toNatClampNeg = j := by rw [hi]; exact nI_clamp (Nat.lt_trans hj hn)
section HEAP
variable {Γ : CT} {X : MX} {R : Room} {sc : Option (Nat × (Nat → Int32))} {FZ : FX} {kc ks : Nat} {w : PW} {pc : Nat} {ls : List (Option Value)} {st : List Value}
theorem r_getf {idx ci k h : Nat} {fs : List Value} {v : Value} (pc' : Nat) (hd : decode X.2.1 pc = .ok (.getfield idx, 3)) (hp : pc + 3 = pc') (hf : FLr X.1 idx ci k) (hw : w[h]? = some (oB ci fs)) (hv : fs[k]? = some v) (kk : Rn Γ X R sc FZ kc ks w pc' ls (v :: st)) : Rn Γ X R sc FZ kc ks w pc ls (.ref h :: st) := by
  subst hp
  intro p l e s m args below meth c C S H locs arr hH hL
  obtain ⟨q, ty0, ⟨g1, g2, g3, g4⟩, hk, hl⟩ := hf
  exact va_get C.1 C.2.1 C.2.2.2.2.2.2.1 g2 C.2.2.2.2.2.1 C.2.2.2.2.2.2.2.1.1 hH.1.1 h (tW_get hw) (C := q.1) (T := q.2.1) (N := q.2.2) g1 k hk (C.2.2.2.2.2.2.1 _ hl) (fun _ z => z) (by show (List.map (tv Γ) fs)[k]? = _; rw [List.getElem?_map, hv]; rfl) hd (kk p l e s m args below meth c C S H locs arr hH hL)
theorem r_putf {idx ci k h : Nat} {ty : FieldType} {fs fs1 : List Value} {v : Value} (pc' : Nat) (hd : decode X.2.1 pc = .ok (.putfield idx, 3)) (hp : pc + 3 = pc') (hf : FL X.1 idx ci k ty false) (hw : w[h]? = some (oB ci fs)) (hv : pv ty v = true) (hk1 : k < fs.length) (hs : fs.set k v = fs1) (kk : Rn Γ X R sc FZ kc ks (w.set h (oB ci fs1)) pc' ls st) : Rn Γ X R sc FZ kc ks w pc ls (v :: .ref h :: st) := by
  subst hp
  subst hs
  intro p l e s m args below meth c C S H locs arr hH hL
  obtain ⟨q, ty0, ⟨g1, g2, g3, g4⟩, hk, hl, rfl, hfin, -⟩ := hf
  have hts := C.2.2.2.2.2.2.1
  have hown := C.2.2.2.2.2.1
  have hK := C.2.2.2.2.2.2.2.1.1
  have hap := va_apart (own := X.1) (C := q.1) (T := q.2.1) (N := q.2.2) hts g2 ty0 g3 g4 hK g1
  obtain ⟨r, h1, cell, q1, q2, q3, q4⟩ := hH.1.1 h _ (tW_get hw)
  have hr : r = q := Option.some.inj (h1.symm.trans g1)
  subst hr
  obtain ⟨hS, hfc, kC, hkC, hkind⟩ := hK.1 ci _ g1
  obtain ⟨cf, kf, fi, f, hi, hsl⟩ := hS k hk
  have hlay := hts _ (g2 _ (u_in_lay hk))
  unfold u_lay at hlay
  rw [if_neg (by rw [hfin]; decide)] at hlay
  have hst := (u_facts hfc hkC (u_lays hts g2 hk) hi).1
  obtain ⟨hn, hfit⟩ := pv_ok (Γ := Γ) hv
  have h6 := u_store hfc hkC hkind hlay hi (g3 k hk) hn hfit
  refine W.putK C.1 C.2.1 (f := f) ⟨hown, hts _ hl, ⟨_, _, _, hi⟩, hst⟩ (by rw [q2]; exact h6) q1 q3 (by rw [hsl]; exact k2_hasslot (q4 k hk)) rfl rfl hd fun H' e1 e2 e3 => ?_
  rw [hsl] at e1 ⊢
  refine kk p l e s m args below meth c C S H' _ arr (hH.up hw ?_ e2 e3) hL
  refine ⟨_, g1, t_OB.to (V := updV (vp_V (fs.map (tv Γ))) k (tv Γ v)) ⟨_, e1, q2, q3, t_set q4 hap hk (tv Γ v)⟩ (fun j _ => ?_)⟩
  show updV (vp_V (fs.map (tv Γ))) k (tv Γ v) j = vp_V ((fs.set k v).map (tv Γ)) j
  rw [List.map_set]
  exact vp_updV_set (by rw [List.length_map]; exact hk1) (tv Γ v) j
theorem r_putF {idx ci k h : Nat} {ty : FieldType} {fs fs1 : List Value} {v : Value} (pc' : Nat) (hd : decode X.2.1 pc = .ok (.putfield idx, 3)) (hp : pc + 3 = pc') (hf : FL X.1 idx ci k ty true) (hI : X.2.2.2.2 = true) (hw : w[h]? = some (oB ci fs)) (hv : pv ty v = true) (hk1 : k < fs.length) (hs : fs.set k v = fs1) (kk : Rn Γ X R sc FZ kc ks (w.set h (oB ci fs1)) pc' ls st) : Rn Γ X R sc FZ kc ks w pc ls (v :: .ref h :: st) := by
  subst hp
  subst hs
  intro p l e s m args below meth c C S H locs arr hH hL
  obtain ⟨q, ty0, ⟨g1, g2, g3, g4⟩, hk, hl, rfl, hfin, hdecl⟩ := hf
  have hts := C.2.2.2.2.2.2.1
  have hown := C.2.2.2.2.2.1
  have hK := C.2.2.2.2.2.2.2.1.1
  have hap := va_apart (own := X.1) (C := q.1) (T := q.2.1) (N := q.2.2) hts g2 ty0 g3 g4 hK g1
  obtain ⟨r, h1, cell, q1, q2, q3, q4⟩ := hH.1.1 h _ (tW_get hw)
  have hr : r = q := Option.some.inj (h1.symm.trans g1)
  subst hr
  obtain ⟨hS, hfc, kC, hkC, hkind⟩ := hK.1 ci _ g1
  obtain ⟨cf, kf, fi, f, hi, hsl⟩ := hS k hk
  have hlay := hts _ (g2 _ (u_in_lay hk))
  unfold u_lay at hlay
  rw [if_pos hfin] at hlay
  have hst := (u_facts hfc hkC (u_lays hts g2 hk) hi).1
  have hcf : m.cls = cf := by
    obtain ⟨_, _, c', _, _, _, -, -, hf', -, -, -, hown2, -⟩ := Cond.laysFinal_spec hlay
    have e1 : c' = cf := by have := hi.symm.trans hf'; simp at this; exact this.1.symm
    rw [hdecl rfl] at hown2
    rw [← e1]; exact Option.some.inj (hown.symm.trans hown2)
  obtain ⟨hn, hfit⟩ := pv_ok (Γ := Γ) hv
  have h6 := u_fits hfc hkC hkind (Or.inr hlay) hi (g3 k hk) hn hfit
  refine W.putFinK C.1 C.2.1 hown (hts _ hl) hi hst hcf (C.2.2.2.2.2.2.2.2 hI) (by rw [q2]; exact h6) q1 q3 (by rw [hsl]; exact k2_hasslot (q4 k hk)) rfl rfl hd fun H' e1 e2 e3 => ?_
  rw [hsl] at e1 ⊢
  refine kk p l e s m args below meth c C S H' _ arr (hH.up hw ?_ e2 e3) hL
  refine ⟨_, g1, t_OB.to (V := updV (vp_V (fs.map (tv Γ))) k (tv Γ v)) ⟨_, e1, q2, q3, t_set q4 hap hk (tv Γ v)⟩ (fun j _ => ?_)⟩
  show updV (vp_V (fs.map (tv Γ))) k (tv Γ v) j = vp_V ((fs.set k v).map (tv Γ)) j
  rw [List.map_set]
  exact vp_updV_set (by rw [List.length_map]; exact hk1) (tv Γ v) j
theorem r_iald {h n : Nat} {f : Nat → Int32} {i : Int32} (pc' : Nat) (hd : decode X.2.1 pc = .ok (.iaload, 1)) (hp : pc + 1 = pc') (j : Nat) (hw : w[h]? = some (aI n f)) (hi : i = nI j) (hj : j < n) (hn : n < 2147483648) (kk : Rn Γ X R sc FZ kc ks w pc' ls (.int (f j) :: st)) : Rn Γ X R sc FZ kc ks w pc ls (.int i :: .ref h :: st) := by
  subst hp
  intro p l e s m args below meth c C S H locs arr hH hL
  refine va_iald C.1 C.2.1 C.2.2.2.2.2.2.2.1.1 hH.1.1 h 0 (tW_get hw) rfl (nI_vp hi hj hn) hd ?_
  rw [nI_cl hi hj hn]
  exact kk p l e s m args below meth c C S H locs arr hH hL
theorem r_cald {h n : Nat} {f : Nat → Int32} {i : Int32} (pc' : Nat) (hd : decode X.2.1 pc = .ok (.caload, 1)) (hp : pc + 1 = pc') (j : Nat) (hw : w[h]? = some (aC n f)) (hi : i = nI j) (hj : j < n) (hn : n < 2147483648) (kk : Rn Γ X R sc FZ kc ks w pc' ls (.int (f j) :: st)) : Rn Γ X R sc FZ kc ks w pc ls (.int i :: .ref h :: st) := by
  subst hp
  intro p l e s m args below meth c C S H locs arr hH hL
  refine va_cald C.1 C.2.1 C.2.2.2.2.2.2.2.1.1 hH.1.1 h 1 (tW_get hw) rfl (nI_vp hi hj hn) hd ?_
  rw [nI_cl hi hj hn]
  exact kk p l e s m args below meth c C S H locs arr hH hL
theorem r_zald {h n : Nat} {f : Nat → Int32} {i : Int32} (pc' : Nat) (hd : decode X.2.1 pc = .ok (.baload, 1)) (hp : pc + 1 = pc') (j : Nat) (hw : w[h]? = some (aZ n f)) (hi : i = nI j) (hj : j < n) (hn : n < 2147483648) (kk : Rn Γ X R sc FZ kc ks w pc' ls (.int (f j) :: st)) : Rn Γ X R sc FZ kc ks w pc ls (.int i :: .ref h :: st) := by
  subst hp
  intro p l e s m args below meth c C S H locs arr hH hL
  refine va_zald C.1 C.2.1 C.2.2.2.2.2.2.2.1.1 hH.1.1 h 2 (tW_get hw) rfl (nI_vp hi hj hn) hd ?_
  rw [nI_cl hi hj hn]
  exact kk p l e s m args below meth c C S H locs arr hH hL
theorem r_lald {h n : Nat} {f : Nat → Int64} {i : Int32} (pc' : Nat) (hd : decode X.2.1 pc = .ok (.laload, 1)) (hp : pc + 1 = pc') (j : Nat) (hw : w[h]? = some (aL n f)) (hi : i = nI j) (hj : j < n) (hn : n < 2147483648) (kk : Rn Γ X R sc FZ kc ks w pc' ls (.long (f j) :: st)) : Rn Γ X R sc FZ kc ks w pc ls (.int i :: .ref h :: st) := by
  subst hp
  intro p l e s m args below meth c C S H locs arr hH hL
  refine va_lald C.1 C.2.1 C.2.2.2.2.2.2.2.1.1 hH.1.1 h 3 (tW_get hw) rfl (nI_vp hi hj hn) hd ?_
  rw [nI_cl hi hj hn]
  exact kk p l e s m args below meth c C S H locs arr hH hL
theorem r_gald {h n : Nat} {f : Nat → Option Nat} {i : Int32} (pc' : Nat) (hd : decode X.2.1 pc = .ok (.aaload, 1)) (hp : pc + 1 = pc') (j : Nat) (hw : w[h]? = some (aG n f)) (hi : i = nI j) (hj : j < n) (hn : n < 2147483648) (kk : Rn Γ X R sc FZ kc ks w pc' ls (rf (f j) :: st)) : Rn Γ X R sc FZ kc ks w pc ls (.int i :: .ref h :: st) := by
  subst hp
  intro p l e s m args below meth c C S H locs arr hH hL
  refine va_aldq C.1 C.2.1 C.2.2.2.2.2.2.2.1.1 hH.1.1 h 4 (tW_get hw) rfl (nI_vp hi hj hn) hd ?_
  rw [nI_cl hi hj hn, ← rf_tv]
  exact kk p l e s m args below meth c C S H locs arr hH hL
theorem r_iast {h n : Nat} {f : Nat → Int32} {i : Int32} {x : Int32} (pc' : Nat) (hd : decode X.2.1 pc = .ok (.iastore, 1)) (hp : pc + 1 = pc') (j : Nat) (hw : w[h]? = some (aI n f)) (hi : i = nI j) (hj : j < n) (hn : n < 2147483648) (kk : Rn Γ X R sc FZ kc ks (w.set h (aI n (upd f j x))) pc' ls st) : Rn Γ X R sc FZ kc ks w pc ls (.int x :: .int i :: .ref h :: st) := by
  subst hp
  intro p l e s m args below meth c C S H locs arr hH hL
  have hvp := nI_vp hi hj hn
  have hcl := nI_cl hi hj hn
  refine W.iast C.1 C.2.1 (hH.1.1 h _ (tW_get hw)) ((C.2.2.2.2.2.2.2.1.1.2 0 _ rfl).1 n _) (fun q => by cases q) (by show ¬ (i < 0 ∨ (arrV _ _ _).slots.size ≤ _); rw [arrV_size]; exact hvp) rfl rfl hd fun H1 e1 z oq => ?_
  refine kk p l e s m args below meth c C S H1 _ arr (hH.up hw ?_ z oq) hL
  show H1[Γ.1.1 + h]? = some (vp_cell _ _)
  rw [e1]
  show some (Cell.setSlot (arrV (Γ.2.2 0) n (fun k => .int (f k))) i.toNatClampNeg (.int x)) = some (arrV (Γ.2.2 0) n (fun k => .int ((upd f j x) k)))
  rw [arrV_store, hcl]
  congr 2
  funext q
  by_cases hq : q = j
  · subst hq
    simp [updV, upd]
    try rfl
  · simp [updV, upd, hq]
theorem r_cast {h n : Nat} {f : Nat → Int32} {i : Int32} {x : Int32} (pc' : Nat) (hd : decode X.2.1 pc = .ok (.castore, 1)) (hp : pc + 1 = pc') (j : Nat) (hw : w[h]? = some (aC n f)) (hi : i = nI j) (hj : j < n) (hn : n < 2147483648) (kk : Rn Γ X R sc FZ kc ks (w.set h (aC n (upd f j (vp_nar .char x)))) pc' ls st) : Rn Γ X R sc FZ kc ks w pc ls (.int x :: .int i :: .ref h :: st) := by
  subst hp
  intro p l e s m args below meth c C S H locs arr hH hL
  have hvp := nI_vp hi hj hn
  have hcl := nI_cl hi hj hn
  refine W.cast C.1 C.2.1 (hH.1.1 h _ (tW_get hw)) ((C.2.2.2.2.2.2.2.1.1.2 1 _ rfl).1 n _) (fun q => by cases q) (by show ¬ (i < 0 ∨ (arrV _ _ _).slots.size ≤ _); rw [arrV_size]; exact hvp) rfl rfl hd fun H1 e1 z oq => ?_
  refine kk p l e s m args below meth c C S H1 _ arr (hH.up hw ?_ z oq) hL
  show H1[Γ.1.1 + h]? = some (vp_cell _ _)
  rw [e1]
  show some (Cell.setSlot (arrV (Γ.2.2 1) n (fun k => .int (f k))) i.toNatClampNeg (narrow .char (.int x))) = some (arrV (Γ.2.2 1) n (fun k => .int ((upd f j (vp_nar .char x)) k)))
  rw [arrV_store, hcl]
  congr 2
  funext q
  by_cases hq : q = j
  · subst hq
    simp [updV, upd, vp_nar]
    try rfl
  · simp [updV, upd, vp_nar, hq]
theorem r_zast {h n : Nat} {f : Nat → Int32} {i : Int32} {x : Int32} (pc' : Nat) (hd : decode X.2.1 pc = .ok (.bastore, 1)) (hp : pc + 1 = pc') (j : Nat) (hw : w[h]? = some (aZ n f)) (hi : i = nI j) (hj : j < n) (hn : n < 2147483648) (kk : Rn Γ X R sc FZ kc ks (w.set h (aZ n (upd f j (vp_nar .boolean x)))) pc' ls st) : Rn Γ X R sc FZ kc ks w pc ls (.int x :: .int i :: .ref h :: st) := by
  subst hp
  intro p l e s m args below meth c C S H locs arr hH hL
  have hvp := nI_vp hi hj hn
  have hcl := nI_cl hi hj hn
  refine W.zast C.1 C.2.1 (hH.1.1 h _ (tW_get hw)) ((C.2.2.2.2.2.2.2.1.1.2 2 _ rfl).1 n _) (fun q => by cases q) (by show ¬ (i < 0 ∨ (arrV _ _ _).slots.size ≤ _); rw [arrV_size]; exact hvp) rfl rfl hd fun H1 e1 z oq => ?_
  refine kk p l e s m args below meth c C S H1 _ arr (hH.up hw ?_ z oq) hL
  show H1[Γ.1.1 + h]? = some (vp_cell _ _)
  rw [e1]
  show some (Cell.setSlot (arrV (Γ.2.2 2) n (fun k => .int (f k))) i.toNatClampNeg (narrow .boolean (.int x))) = some (arrV (Γ.2.2 2) n (fun k => .int ((upd f j (vp_nar .boolean x)) k)))
  rw [arrV_store, hcl]
  congr 2
  funext q
  by_cases hq : q = j
  · subst hq
    simp [updV, upd, vp_nar]
    try rfl
  · simp [updV, upd, vp_nar, hq]
theorem r_last {h n : Nat} {f : Nat → Int64} {i : Int32} {x : Int64} (pc' : Nat) (hd : decode X.2.1 pc = .ok (.lastore, 1)) (hp : pc + 1 = pc') (j : Nat) (hw : w[h]? = some (aL n f)) (hi : i = nI j) (hj : j < n) (hn : n < 2147483648) (kk : Rn Γ X R sc FZ kc ks (w.set h (aL n (vp_updL f j x))) pc' ls st) : Rn Γ X R sc FZ kc ks w pc ls (.long x :: .int i :: .ref h :: st) := by
  subst hp
  intro p l e s m args below meth c C S H locs arr hH hL
  have hvp := nI_vp hi hj hn
  have hcl := nI_cl hi hj hn
  refine W.last C.1 C.2.1 (hH.1.1 h _ (tW_get hw)) ((C.2.2.2.2.2.2.2.1.1.2 3 _ rfl).1 n _) (fun q => by cases q) (by show ¬ (i < 0 ∨ (arrV _ _ _).slots.size ≤ _); rw [arrV_size]; exact hvp) rfl rfl hd fun H1 e1 z oq => ?_
  refine kk p l e s m args below meth c C S H1 _ arr (hH.up hw ?_ z oq) hL
  show H1[Γ.1.1 + h]? = some (vp_cell _ _)
  rw [e1]
  show some (Cell.setSlot (arrV (Γ.2.2 3) n (fun k => .long (f k))) i.toNatClampNeg (.long x)) = some (arrV (Γ.2.2 3) n (fun k => .long ((vp_updL f j x) k)))
  rw [arrV_store, hcl]
  congr 2
  funext q
  by_cases hq : q = j
  · subst hq
    simp [updV, vp_updL]
    try rfl
  · simp [updV, vp_updL, hq]
theorem r_gast {h n v : Nat} {f : Nat → Option Nat} {i : Int32} {vs : List Value} (pc' : Nat) (hd : decode X.2.1 pc = .ok (.aastore, 1)) (hp : pc + 1 = pc') (j : Nat) (hw : w[h]? = some (aG n f)) (hi : i = nI j) (hj : j < n) (hn : n < 2147483648) (hv : w[v]? = some (oB 1 vs)) (kk : Rn Γ X R sc FZ kc ks (w.set h (aG n (va_up f j (some v)))) pc' ls st) : Rn Γ X R sc FZ kc ks w pc ls (.ref v :: .int i :: .ref h :: st) := by
  subst hp
  intro p l e s m args below meth c C S H locs arr hH hL
  have hvp := nI_vp hi hj hn
  have hcl := nI_cl hi hj hn
  have hlt : i.toNatClampNeg < n := Nat.not_le.mp fun q => hvp (Or.inr q)
  have h0 : ¬ i < 0 := fun q => hvp (Or.inl q)
  have hK := C.2.2.2.2.2.2.2.1.1
  obtain ⟨r', hr', cellV, g1, g2, g3, -⟩ := hH.1.1 v _ (tW_get hv)
  have hcls := (hK.1 1 (RX1, TX1, 9) rfl).2
  obtain ⟨kA, comp, k1, k2, k3, -⟩ := (hK.2 4 _ rfl).2
  have hcomp : comp = Γ.2.1.1 1 := Option.some.inj (k3.symm.trans hcls.1)
  subst hcomp
  obtain ⟨kC, hkC, -⟩ := hcls.2
  refine W.aast C.1 C.2.1 (hH.1.1 h _ (tW_get hw)) (fun q h => by cases h) (fun h => by cases h) k1 k2 rfl hkC ⟨h0, by show _ < (arrV _ _ _).slots.size; rw [arrV_size]; exact hlt⟩ g1 (fun q h => by rw [g3] at h; cases h) (by rw [g2]; exact hkC) (by rw [g2]; exact va_assign hcls) rfl rfl hd fun H1 e1 z oq => ?_
  refine kk p l e s m args below meth c C S H1 _ arr (hH.up hw ?_ z oq) hL
  show H1[Γ.1.1 + h]? = some (vp_cell _ _)
  rw [e1]
  show some (Cell.setSlot (arrV (Γ.2.2 4) n (fun k => va_rf ((f k).map (Γ.1.1 + ·)))) i.toNatClampNeg (.ref (Γ.1.1 + v))) = some (arrV (Γ.2.2 4) n (fun k => va_rf (((va_up f j (some v)) k).map (Γ.1.1 + ·))))
  rw [arrV_store, hcl]
  congr 2
  funext q
  by_cases hq : q = j
  · subst hq
    simp [updV, va_up, va_rf]
  · simp [updV, va_up, hq]
def aLen : PC → Option Nat
  | .inl (_, n, _) => some n
  | .inr (.inl (n, _)) => some n
  | .inr (.inr (.inl (n, _))) => some n
  | _ => none
theorem r_alenI {h n : Nat} {f : Nat → Int32} (pc' : Nat) (hd : decode X.2.1 pc = .ok (.arraylength, 1)) (hp : pc + 1 = pc') (hw : w[h]? = some (aI n f)) (kk : Rn Γ X R sc FZ kc ks w pc' ls (.int (nI n) :: st)) : Rn Γ X R sc FZ kc ks w pc ls (.ref h :: st) := by
  subst hp
  intro p l e s m args below meth c C S H locs arr hH hL
  exact va_alen C.1 C.2.1 C.2.2.2.2.2.2.2.1.1 hH.1.1 h 0 (tW_get hw) rfl rfl hd (kk p l e s m args below meth c C S H locs arr hH hL)
theorem r_alenL {h n : Nat} {f : Nat → Int64} (pc' : Nat) (hd : decode X.2.1 pc = .ok (.arraylength, 1)) (hp : pc + 1 = pc') (hw : w[h]? = some (aL n f)) (kk : Rn Γ X R sc FZ kc ks w pc' ls (.int (nI n) :: st)) : Rn Γ X R sc FZ kc ks w pc ls (.ref h :: st) := by
  subst hp
  intro p l e s m args below meth c C S H locs arr hH hL
  exact va_alen C.1 C.2.1 C.2.2.2.2.2.2.2.1.1 hH.1.1 h 3 (tW_get hw) rfl rfl hd (kk p l e s m args below meth c C S H locs arr hH hL)
theorem r_alenG {h n : Nat} {f : Nat → Option Nat} (pc' : Nat) (hd : decode X.2.1 pc = .ok (.arraylength, 1)) (hp : pc + 1 = pc') (hw : w[h]? = some (aG n f)) (kk : Rn Γ X R sc FZ kc ks w pc' ls (.int (nI n) :: st)) : Rn Γ X R sc FZ kc ks w pc ls (.ref h :: st) := by
  subst hp
  intro p l e s m args below meth c C S H locs arr hH hL
  exact va_alen C.1 C.2.1 C.2.2.2.2.2.2.2.1.1 hH.1.1 h 4 (tW_get hw) rfl rfl hd (kk p l e s m args below meth c C S H locs arr hH hL)
theorem r_newaI {i : Int32} (pc' n : Nat) (hd : decode X.2.1 pc = .ok (.newarray .int, 2)) (hp : pc + 2 = pc') (ht : Cond.arrayClass .int ∈ WT) (hi : i = nI n) (hn : n ≤ 60000) (hc : kc + 1 ≤ R.cells) (hs : ks + n ≤ R.slots) (kk : Rn Γ X R sc FZ (kc + 1) (ks + n) (w ++ [aI n (fun _ => 0)]) pc' ls (.ref w.length :: st)) : Rn Γ X R sc FZ kc ks w pc ls (.int i :: st) := by
  subst hp
  subst hi
  intro p l e s m args below meth c C S H locs arr hH hL
  have hn2 : n < 2 ^ 31 := Nat.lt_of_le_of_lt hn (by decide)
  refine va_newaK (atype := .int) (N := n) C.1 C.2.1 (C.2.2.2.2.2.2.1 _ ht) rfl hd rfl (nI_pos hn2) (nI_clamp hn2) (by show n * _ ≤ _; exact Nat.le_trans (Nat.mul_le_mul_right _ hn) (by decide)) hc hs rfl fun H1 cA e1 z o1 hAr hNm => ?_
  have hcA : cA = Γ.2.2 0 := Option.some.inj (hNm.symm.trans ((C.2.2.2.2.2.2.2.1.1.2 0 _ rfl).2))
  subst hcA
  have h1 := kk p l e s m args below meth c C S H1 locs arr (hH.new (c := aI n (fun _ => 0)) e1 z o1) hL
  rw [hH.1.2]
  exact h1
theorem r_newaC {i : Int32} (pc' n : Nat) (hd : decode X.2.1 pc = .ok (.newarray .char, 2)) (hp : pc + 2 = pc') (ht : Cond.arrayClass .char ∈ WT) (hi : i = nI n) (hn : n ≤ 60000) (hc : kc + 1 ≤ R.cells) (hs : ks + n ≤ R.slots) (kk : Rn Γ X R sc FZ (kc + 1) (ks + n) (w ++ [aC n (fun _ => 0)]) pc' ls (.ref w.length :: st)) : Rn Γ X R sc FZ kc ks w pc ls (.int i :: st) := by
  subst hp
  subst hi
  intro p l e s m args below meth c C S H locs arr hH hL
  have hn2 : n < 2 ^ 31 := Nat.lt_of_le_of_lt hn (by decide)
  refine va_newaK (atype := .char) (N := n) C.1 C.2.1 (C.2.2.2.2.2.2.1 _ ht) rfl hd rfl (nI_pos hn2) (nI_clamp hn2) (by show n * _ ≤ _; exact Nat.le_trans (Nat.mul_le_mul_right _ hn) (by decide)) hc hs rfl fun H1 cA e1 z o1 hAr hNm => ?_
  have hcA : cA = Γ.2.2 1 := Option.some.inj (hNm.symm.trans ((C.2.2.2.2.2.2.2.1.1.2 1 _ rfl).2))
  subst hcA
  have h1 := kk p l e s m args below meth c C S H1 locs arr (hH.new (c := aC n (fun _ => 0)) e1 z o1) hL
  rw [hH.1.2]
  exact h1
theorem r_newaZ {i : Int32} (pc' n : Nat) (hd : decode X.2.1 pc = .ok (.newarray .boolean, 2)) (hp : pc + 2 = pc') (ht : Cond.arrayClass .boolean ∈ WT) (hi : i = nI n) (hn : n ≤ 60000) (hc : kc + 1 ≤ R.cells) (hs : ks + n ≤ R.slots) (kk : Rn Γ X R sc FZ (kc + 1) (ks + n) (w ++ [aZ n (fun _ => 0)]) pc' ls (.ref w.length :: st)) : Rn Γ X R sc FZ kc ks w pc ls (.int i :: st) := by
  subst hp
  subst hi
  intro p l e s m args below meth c C S H locs arr hH hL
  have hn2 : n < 2 ^ 31 := Nat.lt_of_le_of_lt hn (by decide)
  refine va_newaK (atype := .boolean) (N := n) C.1 C.2.1 (C.2.2.2.2.2.2.1 _ ht) rfl hd rfl (nI_pos hn2) (nI_clamp hn2) (by show n * _ ≤ _; exact Nat.le_trans (Nat.mul_le_mul_right _ hn) (by decide)) hc hs rfl fun H1 cA e1 z o1 hAr hNm => ?_
  have hcA : cA = Γ.2.2 2 := Option.some.inj (hNm.symm.trans ((C.2.2.2.2.2.2.2.1.1.2 2 _ rfl).2))
  subst hcA
  have h1 := kk p l e s m args below meth c C S H1 locs arr (hH.new (c := aZ n (fun _ => 0)) e1 z o1) hL
  rw [hH.1.2]
  exact h1
theorem r_newaL {i : Int32} (pc' n : Nat) (hd : decode X.2.1 pc = .ok (.newarray .long, 2)) (hp : pc + 2 = pc') (ht : Cond.arrayClass .long ∈ WT) (hi : i = nI n) (hn : n ≤ 60000) (hc : kc + 1 ≤ R.cells) (hs : ks + n ≤ R.slots) (kk : Rn Γ X R sc FZ (kc + 1) (ks + n) (w ++ [aL n (fun _ => 0)]) pc' ls (.ref w.length :: st)) : Rn Γ X R sc FZ kc ks w pc ls (.int i :: st) := by
  subst hp
  subst hi
  intro p l e s m args below meth c C S H locs arr hH hL
  have hn2 : n < 2 ^ 31 := Nat.lt_of_le_of_lt hn (by decide)
  refine va_newaK (atype := .long) (N := n) C.1 C.2.1 (C.2.2.2.2.2.2.1 _ ht) rfl hd rfl (nI_pos hn2) (nI_clamp hn2) (by show n * _ ≤ _; exact Nat.le_trans (Nat.mul_le_mul_right _ hn) (by decide)) hc hs rfl fun H1 cA e1 z o1 hAr hNm => ?_
  have hcA : cA = Γ.2.2 3 := Option.some.inj (hNm.symm.trans ((C.2.2.2.2.2.2.2.1.1.2 3 _ rfl).2))
  subst hcA
  have h1 := kk p l e s m args below meth c C S H1 locs arr (hH.new (c := aL n (fun _ => 0)) e1 z o1) hL
  rw [hH.1.2]
  exact h1
end HEAP
