/-! ===== one rule an instruction ===== -/
section RULES
variable {Γ : CT} {X : MX} {R : Room} {sc : Option (Nat × (Nat → Int32))} {FZ : FX} {kc ks : Nat} {w : PW} {pc : Nat} {ls : List (Option Value)} {st : List Value}
theorem r_iconst {n : Int} {v : Int32} (pc' : Nat) (hd : decode X.2.1 pc = .ok (.iconst n, 1)) (hp : pc + 1 = pc') (hv : Int32.ofInt n = v) (k : Rn Γ X R sc FZ kc ks w pc' ls (.int v :: st)) : Rn Γ X R sc FZ kc ks w pc ls st := by
  subst hp
  intro p l e s m args below meth c C S H locs arr hH hL
  exact lv_iconst C.1 C.2.1 hd hv (k p l e s m args below meth c C S H locs arr hH hL)
theorem r_bipush {n : Int} {v : Int32} (pc' : Nat) (hd : decode X.2.1 pc = .ok (.bipush n, 2)) (hp : pc + 2 = pc') (hv : (Int8.ofInt n).toInt32 = v) (k : Rn Γ X R sc FZ kc ks w pc' ls (.int v :: st)) : Rn Γ X R sc FZ kc ks w pc ls st := by
  subst hp
  intro p l e s m args below meth c C S H locs arr hH hL
  exact lv_bipush C.1 C.2.1 hd hv (k p l e s m args below meth c C S H locs arr hH hL)
theorem r_sipush {n : Int} {v : Int32} (pc' : Nat) (hd : decode X.2.1 pc = .ok (.sipush n, 3)) (hp : pc + 3 = pc') (hv : (Int16.ofInt n).toInt32 = v) (k : Rn Γ X R sc FZ kc ks w pc' ls (.int v :: st)) : Rn Γ X R sc FZ kc ks w pc ls st := by
  subst hp
  intro p l e s m args below meth c C S H locs arr hH hL
  exact lv_sipush C.1 C.2.1 hd hv (k p l e s m args below meth c C S H locs arr hH hL)
theorem r_lconst {n : Fin 2} {v : Int64} (pc' : Nat) (hd : decode X.2.1 pc = .ok (.lconst n, 1)) (hp : pc + 1 = pc') (hv : Int64.ofNat (n : Nat) = v) (k : Rn Γ X R sc FZ kc ks w pc' ls (.long v :: st)) : Rn Γ X R sc FZ kc ks w pc ls st := by
  subst hp
  intro p l e s m args below meth c C S H locs arr hH hL
  exact lv_lconst C.1 C.2.1 hd hv (k p l e s m args below meth c C S H locs arr hH hL)
theorem r_null  (pc' : Nat) (hd : decode X.2.1 pc = .ok (.aconst_null, 1)) (hp : pc + 1 = pc') (k : Rn Γ X R sc FZ kc ks w pc' ls (.null :: st)) : Rn Γ X R sc FZ kc ks w pc ls st := by
  subst hp
  intro p l e s m args below meth c C S H locs arr hH hL
  exact lv_null C.1 C.2.1 hd (k p l e s m args below meth c C S H locs arr hH hL)
theorem r_ldc2 {i : Nat} {v : Int64} (pc' : Nat) (hd : decode X.2.1 pc = .ok (.ldc2_w i, 3)) (hp : pc + 3 = pc') (hw : Cond.constantLong X.1 i v ∈ WT) (k : Rn Γ X R sc FZ kc ks w pc' ls (.long v :: st)) : Rn Γ X R sc FZ kc ks w pc ls st := by
  subst hp
  intro p l e s m args below meth c C S H locs arr hH hL
  exact lv_ldc2 C.1 C.2.1 C.2.2.2.2.2.1 (C.2.2.2.2.2.2.1 _ hw) hd (k p l e s m args below meth c C S H locs arr hH hL)
theorem r_iadd {a b : Int32} (pc' : Nat) (hd : decode X.2.1 pc = .ok (.iadd, 1)) (hp : pc + 1 = pc') (k : Rn Γ X R sc FZ kc ks w pc' ls (.int (a + b) :: st)) : Rn Γ X R sc FZ kc ks w pc ls (.int b :: .int a :: st) := by
  subst hp
  intro p l e s m args below meth c C S H locs arr hH hL
  exact lv_iadd C.1 C.2.1 hd (k p l e s m args below meth c C S H locs arr hH hL)
theorem r_isub {a b : Int32} (pc' : Nat) (hd : decode X.2.1 pc = .ok (.isub, 1)) (hp : pc + 1 = pc') (k : Rn Γ X R sc FZ kc ks w pc' ls (.int (a - b) :: st)) : Rn Γ X R sc FZ kc ks w pc ls (.int b :: .int a :: st) := by
  subst hp
  intro p l e s m args below meth c C S H locs arr hH hL
  exact lv_isub C.1 C.2.1 hd (k p l e s m args below meth c C S H locs arr hH hL)
theorem r_imul {a b : Int32} (pc' : Nat) (hd : decode X.2.1 pc = .ok (.imul, 1)) (hp : pc + 1 = pc') (k : Rn Γ X R sc FZ kc ks w pc' ls (.int (a * b) :: st)) : Rn Γ X R sc FZ kc ks w pc ls (.int b :: .int a :: st) := by
  subst hp
  intro p l e s m args below meth c C S H locs arr hH hL
  exact lv_imul C.1 C.2.1 hd (k p l e s m args below meth c C S H locs arr hH hL)
theorem r_ixor {a b : Int32} (pc' : Nat) (hd : decode X.2.1 pc = .ok (.ixor, 1)) (hp : pc + 1 = pc') (k : Rn Γ X R sc FZ kc ks w pc' ls (.int (a ^^^ b) :: st)) : Rn Γ X R sc FZ kc ks w pc ls (.int b :: .int a :: st) := by
  subst hp
  intro p l e s m args below meth c C S H locs arr hH hL
  exact lv_ixor C.1 C.2.1 hd (k p l e s m args below meth c C S H locs arr hH hL)
theorem r_iand {a b : Int32} (pc' : Nat) (hd : decode X.2.1 pc = .ok (.iand, 1)) (hp : pc + 1 = pc') (k : Rn Γ X R sc FZ kc ks w pc' ls (.int (a &&& b) :: st)) : Rn Γ X R sc FZ kc ks w pc ls (.int b :: .int a :: st) := by
  subst hp
  intro p l e s m args below meth c C S H locs arr hH hL
  exact lv_iand C.1 C.2.1 hd (k p l e s m args below meth c C S H locs arr hH hL)
theorem r_idiv {a b : Int32} (pc' : Nat) (hd : decode X.2.1 pc = .ok (.idiv, 1)) (hp : pc + 1 = pc') (h0 : ¬ b = 0) (k : Rn Γ X R sc FZ kc ks w pc' ls (.int (a / b) :: st)) : Rn Γ X R sc FZ kc ks w pc ls (.int b :: .int a :: st) := by
  subst hp
  intro p l e s m args below meth c C S H locs arr hH hL
  exact lv_idiv C.1 C.2.1 hd h0 (k p l e s m args below meth c C S H locs arr hH hL)
theorem r_irem {a b : Int32} (pc' : Nat) (hd : decode X.2.1 pc = .ok (.irem, 1)) (hp : pc + 1 = pc') (h0 : ¬ b = 0) (k : Rn Γ X R sc FZ kc ks w pc' ls (.int (a - a / b * b) :: st)) : Rn Γ X R sc FZ kc ks w pc ls (.int b :: .int a :: st) := by
  subst hp
  intro p l e s m args below meth c C S H locs arr hH hL
  exact lv_irem C.1 C.2.1 hd h0 (k p l e s m args below meth c C S H locs arr hH hL)
theorem r_ineg {a : Int32} (pc' : Nat) (hd : decode X.2.1 pc = .ok (.ineg, 1)) (hp : pc + 1 = pc') (k : Rn Γ X R sc FZ kc ks w pc' ls (.int (-a) :: st)) : Rn Γ X R sc FZ kc ks w pc ls (.int a :: st) := by
  subst hp
  intro p l e s m args below meth c C S H locs arr hH hL
  exact lv_ineg C.1 C.2.1 hd (k p l e s m args below meth c C S H locs arr hH hL)
theorem r_land {a b : Int64} (pc' : Nat) (hd : decode X.2.1 pc = .ok (.land, 1)) (hp : pc + 1 = pc') (k : Rn Γ X R sc FZ kc ks w pc' ls (.long (a &&& b) :: st)) : Rn Γ X R sc FZ kc ks w pc ls (.long b :: .long a :: st) := by
  subst hp
  intro p l e s m args below meth c C S H locs arr hH hL
  exact lv_land C.1 C.2.1 hd (k p l e s m args below meth c C S H locs arr hH hL)
theorem r_lor {a b : Int64} (pc' : Nat) (hd : decode X.2.1 pc = .ok (.lor, 1)) (hp : pc + 1 = pc') (k : Rn Γ X R sc FZ kc ks w pc' ls (.long (a ||| b) :: st)) : Rn Γ X R sc FZ kc ks w pc ls (.long b :: .long a :: st) := by
  subst hp
  intro p l e s m args below meth c C S H locs arr hH hL
  exact lv_lor C.1 C.2.1 hd (k p l e s m args below meth c C S H locs arr hH hL)
theorem r_lshl {a : Int64} {b : Int32} {v : Int64} (pc' : Nat) (hd : decode X.2.1 pc = .ok (.lshl, 1)) (hp : pc + 1 = pc') (hv : a <<< (b.toInt64 &&& 63) = v) (k : Rn Γ X R sc FZ kc ks w pc' ls (.long v :: st)) : Rn Γ X R sc FZ kc ks w pc ls (.int b :: .long a :: st) := by
  subst hp
  intro p l e s m args below meth c C S H locs arr hH hL
  exact lv_lshl C.1 C.2.1 hd hv (k p l e s m args below meth c C S H locs arr hH hL)
theorem r_lushr {a : Int64} {b : Int32} {v : Int64} (pc' : Nat) (hd : decode X.2.1 pc = .ok (.lushr, 1)) (hp : pc + 1 = pc') (hv : (a.toUInt64 >>> (b.toInt64.toUInt64 &&& Int64.toUInt64 63)).toInt64 = v) (k : Rn Γ X R sc FZ kc ks w pc' ls (.long v :: st)) : Rn Γ X R sc FZ kc ks w pc ls (.int b :: .long a :: st) := by
  subst hp
  intro p l e s m args below meth c C S H locs arr hH hL
  exact lv_lushr C.1 C.2.1 hd hv (k p l e s m args below meth c C S H locs arr hH hL)
theorem r_i2l {a : Int32} {v : Int64} (pc' : Nat) (hd : decode X.2.1 pc = .ok (.i2l, 1)) (hp : pc + 1 = pc') (hv : a.toInt64 = v) (k : Rn Γ X R sc FZ kc ks w pc' ls (.long v :: st)) : Rn Γ X R sc FZ kc ks w pc ls (.int a :: st) := by
  subst hp
  intro p l e s m args below meth c C S H locs arr hH hL
  exact lv_i2l C.1 C.2.1 hd hv (k p l e s m args below meth c C S H locs arr hH hL)
theorem r_l2i {a : Int64} {v : Int32} (pc' : Nat) (hd : decode X.2.1 pc = .ok (.l2i, 1)) (hp : pc + 1 = pc') (hv : a.toInt32 = v) (k : Rn Γ X R sc FZ kc ks w pc' ls (.int v :: st)) : Rn Γ X R sc FZ kc ks w pc ls (.long a :: st) := by
  subst hp
  intro p l e s m args below meth c C S H locs arr hH hL
  exact lv_l2i C.1 C.2.1 hd hv (k p l e s m args below meth c C S H locs arr hH hL)
theorem r_i2c {a : Int32} {v : Int32} (pc' : Nat) (hd : decode X.2.1 pc = .ok (.i2c, 1)) (hp : pc + 1 = pc') (hv : (a.toUInt32 % 65536).toInt32 = v) (k : Rn Γ X R sc FZ kc ks w pc' ls (.int v :: st)) : Rn Γ X R sc FZ kc ks w pc ls (.int a :: st) := by
  subst hp
  intro p l e s m args below meth c C S H locs arr hH hL
  exact lv_i2c C.1 C.2.1 hd hv (k p l e s m args below meth c C S H locs arr hH hL)
theorem r_lcmp {a b : Int64} (pc' : Nat) (hd : decode X.2.1 pc = .ok (.lcmp, 1)) (hp : pc + 1 = pc') (k : Rn Γ X R sc FZ kc ks w pc' ls (.int (lg_cmp a b) :: st)) : Rn Γ X R sc FZ kc ks w pc ls (.long b :: .long a :: st) := by
  subst hp
  intro p l e s m args below meth c C S H locs arr hH hL
  exact W.lcmp C.1 C.2.1 hd (k p l e s m args below meth c C S H locs arr hH hL)
theorem r_dup {v : Value} (pc' : Nat) (hd : decode X.2.1 pc = .ok (.dup, 1)) (hp : pc + 1 = pc') (hv : v.category = 1) (k : Rn Γ X R sc FZ kc ks w pc' ls (v :: v :: st)) : Rn Γ X R sc FZ kc ks w pc ls (v :: st) := by
  subst hp
  intro p l e s m args below meth c C S H locs arr hH hL
  exact lv_dup C.1 C.2.1 hd (by rw [tv_cat]; exact hv) (k p l e s m args below meth c C S H locs arr hH hL)
theorem r_dup2 {v u : Value} (pc' : Nat) (hd : decode X.2.1 pc = .ok (.dup2, 1)) (hp : pc + 1 = pc') (hv : v.category = 1) (hu : u.category = 1) (k : Rn Γ X R sc FZ kc ks w pc' ls (v :: u :: v :: u :: st)) : Rn Γ X R sc FZ kc ks w pc ls (v :: u :: st) := by
  subst hp
  intro p l e s m args below meth c C S H locs arr hH hL
  exact lv_dup2_11 C.1 C.2.1 hd (by rw [tv_cat]; exact hv) (by rw [tv_cat]; exact hu) (k p l e s m args below meth c C S H locs arr hH hL)
theorem r_iload_n {i : Fin 4} {x : Int32} (pc' : Nat) (hd : decode X.2.1 pc = .ok (.iload_n i, 1)) (hp : pc + 1 = pc') (hl : ls[(i : Nat)]? = some (some (.int x))) (k : Rn Γ X R sc FZ kc ks w pc' ls (.int x :: st)) : Rn Γ X R sc FZ kc ks w pc ls st := by
  subst hp
  intro p l e s m args below meth c C S H locs arr hH hL
  exact lv_iload_n C.1 C.2.1 hd rfl (hL.2.2 _ _ hl) (k p l e s m args below meth c C S H locs arr hH hL)
theorem r_iload {i : Nat} {x : Int32} (pc' : Nat) (hd : decode X.2.1 pc = .ok (.iload i, 2)) (hp : pc + 2 = pc') (hl : ls[i]? = some (some (.int x))) (k : Rn Γ X R sc FZ kc ks w pc' ls (.int x :: st)) : Rn Γ X R sc FZ kc ks w pc ls st := by
  subst hp
  intro p l e s m args below meth c C S H locs arr hH hL
  exact lv_iload C.1 C.2.1 hd (hL.2.2 _ _ hl) (k p l e s m args below meth c C S H locs arr hH hL)
theorem r_lload_n {i : Fin 4} {x : Int64} (pc' : Nat) (hd : decode X.2.1 pc = .ok (.lload_n i, 1)) (hp : pc + 1 = pc') (hl : ls[(i : Nat)]? = some (some (.long x))) (k : Rn Γ X R sc FZ kc ks w pc' ls (.long x :: st)) : Rn Γ X R sc FZ kc ks w pc ls st := by
  subst hp
  intro p l e s m args below meth c C S H locs arr hH hL
  exact lv_lload_n C.1 C.2.1 hd rfl (hL.2.2 _ _ hl) (k p l e s m args below meth c C S H locs arr hH hL)
theorem r_lload {i : Nat} {x : Int64} (pc' : Nat) (hd : decode X.2.1 pc = .ok (.lload i, 2)) (hp : pc + 2 = pc') (hl : ls[i]? = some (some (.long x))) (k : Rn Γ X R sc FZ kc ks w pc' ls (.long x :: st)) : Rn Γ X R sc FZ kc ks w pc ls st := by
  subst hp
  intro p l e s m args below meth c C S H locs arr hH hL
  exact lv_lload C.1 C.2.1 hd (hL.2.2 _ _ hl) (k p l e s m args below meth c C S H locs arr hH hL)
def rk : Value → Bool
  | .ref _ => true
  | .null => true
  | .float _ => true
  | _ => false
theorem r_aload_n {i : Fin 4} {v : Value} (pc' : Nat) (hd : decode X.2.1 pc = .ok (.aload_n i, 1)) (hp : pc + 1 = pc') (hl : ls[(i : Nat)]? = some (some v)) (hv : rk v = true) (k : Rn Γ X R sc FZ kc ks w pc' ls (v :: st)) : Rn Γ X R sc FZ kc ks w pc ls st := by
  subst hp
  intro p l e s m args below meth c C S H locs arr hH hL
  have h1 := hL.2.2 _ _ hl
  have h2 := k p l e s m args below meth c C S H locs arr hH hL
  cases v with
  | ref a => exact lv_aload_n C.1 C.2.1 hd rfl h1 h2
  | float a => exact lv_aload_n C.1 C.2.1 hd rfl h1 h2
  | null => exact lv_aload_nN C.1 C.2.1 hd rfl h1 h2
  | _ => cases hv
theorem r_aload {i : Nat} {v : Value} (pc' : Nat) (hd : decode X.2.1 pc = .ok (.aload i, 2)) (hp : pc + 2 = pc') (hl : ls[i]? = some (some v)) (hv : rk v = true) (k : Rn Γ X R sc FZ kc ks w pc' ls (v :: st)) : Rn Γ X R sc FZ kc ks w pc ls st := by
  subst hp
  intro p l e s m args below meth c C S H locs arr hH hL
  have h1 := hL.2.2 _ _ hl
  have h2 := k p l e s m args below meth c C S H locs arr hH hL
  cases v with
  | ref a => exact lv_aload C.1 C.2.1 hd h1 h2
  | float a => exact lv_aload C.1 C.2.1 hd h1 h2
  | null => exact lv_aloadN C.1 C.2.1 hd h1 h2
  | _ => cases hv
def lvl (Γ : CT) (ls : List (Option Value)) : List (Nat × Value) := (ls.mapIdx (fun j q => (j, q))).filterMap (fun q => q.2.map (fun v => (q.1, tv Γ v)))
theorem lvl_in {Γ : CT} {ls : List (Option Value)} {j : Nat} {v : Value} (h : ls[j]? = some (some v)) : (j, tv Γ v) ∈ lvl Γ ls := by
  refine List.mem_filterMap.mpr ⟨(j, some v), List.mem_of_getElem? (i := j) ?_, rfl⟩
  rw [List.getElem?_mapIdx, h]
  rfl
theorem LV.has {Γ : CT} {arr : Array Slot} {n : Nat} {ls : List (Option Value)} (h : LV Γ arr n ls) : lv_has arr n (lvl Γ ls) := by
  refine ⟨h.1, h.2.1, fun q hq => ?_⟩
  obtain ⟨⟨j, u⟩, h1, h2⟩ := List.mem_filterMap.mp hq
  obtain ⟨i, hi⟩ := List.getElem?_of_mem h1
  rw [List.getElem?_mapIdx] at hi
  cases hu : ls[i]? with
  | none => rw [hu] at hi; cases hi
  | some z =>
    rw [hu] at hi
    cases hi
    cases u with
    | none => cases h2
    | some v => cases h2; exact h.2.2 _ _ hu
def nl : Option Value → Bool
  | some (.long _) => false
  | some (.double _) => false
  | _ => true
def okS (ls : List (Option Value)) : Nat → Bool
  | 0 => true
  | i + 1 => nl (ls.getD i none)
theorem nl_cat {v : Value} (h : nl (some v) = true) : ¬ v.category = 2 := by
  cases v <;> first | (cases h; done) | (intro q; cases q)
theorem LV.st1 {Γ : CT} {arr : Array Slot} {n i : Nat} {ls : List (Option Value)} {v : Value} (h : lv_has arr n ((i, tv Γ v) :: (lvl Γ ls).filter (fun q => !(q.1 == i) && !(q.1 + 1 == i && q.2.category == 2)))) (ho : okS ls i = true) : LV Γ arr n (ls.set i (some v)) := by
  refine ⟨h.1, h.2.1, fun j u hj => ?_⟩
  rw [List.getElem?_set] at hj
  by_cases hij : i = j
  · rw [if_pos hij] at hj
    split at hj
    · cases hj; subst hij; exact h.2.2 _ List.mem_cons_self
    · cases hj
  · rw [if_neg hij] at hj
    refine h.2.2 (j, tv Γ u) (List.mem_cons_of_mem _ (List.mem_filter.mpr ⟨lvl_in hj, ?_⟩))
    by_cases h1 : j + 1 = i
    · subst h1
      have : ¬ u.category = 2 := nl_cat (by simpa [okS, List.getD, hj] using ho)
      simp [tv_cat, this]
    · simp [h1, Ne.symm hij]
theorem LV.st2 {Γ : CT} {arr : Array Slot} {n i : Nat} {ls : List (Option Value)} {v : Value} (h : lv_has arr n ((i, tv Γ v) :: (lvl Γ ls).filter (fun q => !(q.1 == i) && (!(q.1 == i + 1) && !(q.1 + 1 == i && q.2.category == 2))))) (ho : okS ls i = true) : LV Γ arr n ((ls.set i (some v)).set (i + 1) none) := by
  refine ⟨h.1, h.2.1, fun j u hj => ?_⟩
  rw [List.getElem?_set, List.getElem?_set] at hj
  by_cases h2 : i + 1 = j
  · rw [if_pos h2] at hj
    split at hj <;> cases hj
  rw [if_neg h2] at hj
  by_cases hij : i = j
  · rw [if_pos hij] at hj
    split at hj
    · cases hj; subst hij; exact h.2.2 _ List.mem_cons_self
    · cases hj
  · rw [if_neg hij] at hj
    refine h.2.2 (j, tv Γ u) (List.mem_cons_of_mem _ (List.mem_filter.mpr ⟨lvl_in hj, ?_⟩))
    by_cases h1 : j + 1 = i
    · subst h1
      have : ¬ u.category = 2 := nl_cat (by simpa [okS, List.getD, hj] using ho)
      simp [tv_cat, this]; omega
    · simp [h1, Ne.symm hij, Ne.symm h2]
theorem r_istore_n {i : Fin 4} {x : Int32} {ls1 : List (Option Value)} (pc' : Nat) (hd : decode X.2.1 pc = .ok (.istore_n i, 1)) (hp : pc + 1 = pc') (hn : (i : Nat) < X.2.2.1) (ho : okS ls (i : Nat) = true) (hs : (ls.set (i : Nat) (some (.int x))) = ls1) (k : Rn Γ X R sc FZ kc ks w pc' ls1 st) : Rn Γ X R sc FZ kc ks w pc ls ((.int x) :: st) := by
  subst hp
  subst hs
  intro p l e s m args below meth c C S H locs arr hH hL
  exact lv_istore_n C.1 C.2.1 hd rfl hL.has hn rfl (fun arr' h' => k p l e s m args below meth c C S H locs arr' hH (LV.st1 h' ho))
theorem r_istore {i : Nat} {x : Int32} {ls1 : List (Option Value)} (pc' : Nat) (hd : decode X.2.1 pc = .ok (.istore i, 2)) (hp : pc + 2 = pc') (hn : i < X.2.2.1) (ho : okS ls i = true) (hs : (ls.set i (some (.int x))) = ls1) (k : Rn Γ X R sc FZ kc ks w pc' ls1 st) : Rn Γ X R sc FZ kc ks w pc ls ((.int x) :: st) := by
  subst hp
  subst hs
  intro p l e s m args below meth c C S H locs arr hH hL
  exact lv_istore C.1 C.2.1 hd hL.has hn rfl (fun arr' h' => k p l e s m args below meth c C S H locs arr' hH (LV.st1 h' ho))
theorem r_lstore_n {i : Fin 4} {x : Int64} {ls1 : List (Option Value)} (pc' : Nat) (hd : decode X.2.1 pc = .ok (.lstore_n i, 1)) (hp : pc + 1 = pc') (hn : (i : Nat) + 1 < X.2.2.1) (ho : okS ls (i : Nat) = true) (hs : ((ls.set (i : Nat) (some (.long x))).set ((i : Nat) + 1) none) = ls1) (k : Rn Γ X R sc FZ kc ks w pc' ls1 st) : Rn Γ X R sc FZ kc ks w pc ls ((.long x) :: st) := by
  subst hp
  subst hs
  intro p l e s m args below meth c C S H locs arr hH hL
  exact lv_lstore_n C.1 C.2.1 hd rfl hL.has hn rfl (fun arr' h' => k p l e s m args below meth c C S H locs arr' hH (LV.st2 h' ho))
theorem r_lstore {i : Nat} {x : Int64} {ls1 : List (Option Value)} (pc' : Nat) (hd : decode X.2.1 pc = .ok (.lstore i, 2)) (hp : pc + 2 = pc') (hn : i + 1 < X.2.2.1) (ho : okS ls i = true) (hs : ((ls.set i (some (.long x))).set (i + 1) none) = ls1) (k : Rn Γ X R sc FZ kc ks w pc' ls1 st) : Rn Γ X R sc FZ kc ks w pc ls ((.long x) :: st) := by
  subst hp
  subst hs
  intro p l e s m args below meth c C S H locs arr hH hL
  exact lv_lstore C.1 C.2.1 hd hL.has hn rfl (fun arr' h' => k p l e s m args below meth c C S H locs arr' hH (LV.st2 h' ho))
theorem r_astore_n {i : Fin 4} {v : Value} {ls1 : List (Option Value)} (pc' : Nat) (hd : decode X.2.1 pc = .ok (.astore_n i, 1)) (hp : pc + 1 = pc') (hn : (i : Nat) < X.2.2.1) (ho : okS ls (i : Nat) = true) (hv : rk v = true) (hs : ls.set (i : Nat) (some v) = ls1) (k : Rn Γ X R sc FZ kc ks w pc' ls1 st) : Rn Γ X R sc FZ kc ks w pc ls (v :: st) := by
  subst hp
  subst hs
  intro p l e s m args below meth c C S H locs arr hH hL
  cases v with
  | ref a => exact lv_astore_n C.1 C.2.1 hd rfl hL.has hn rfl (fun arr' h' => k p l e s m args below meth c C S H locs arr' hH (LV.st1 (v := .ref a) h' ho))
  | float a => exact lv_astore_n C.1 C.2.1 hd rfl hL.has hn rfl (fun arr' h' => k p l e s m args below meth c C S H locs arr' hH (LV.st1 (v := .float a) h' ho))
  | null => exact lv_astore_nN C.1 C.2.1 hd rfl hL.has hn rfl (fun arr' h' => k p l e s m args below meth c C S H locs arr' hH (LV.st1 (v := .null) h' ho))
  | _ => cases hv
theorem r_astore {i : Nat} {v : Value} {ls1 : List (Option Value)} (pc' : Nat) (hd : decode X.2.1 pc = .ok (.astore i, 2)) (hp : pc + 2 = pc') (hn : i < X.2.2.1) (ho : okS ls i = true) (hv : rk v = true) (hs : ls.set i (some v) = ls1) (k : Rn Γ X R sc FZ kc ks w pc' ls1 st) : Rn Γ X R sc FZ kc ks w pc ls (v :: st) := by
  subst hp
  subst hs
  intro p l e s m args below meth c C S H locs arr hH hL
  cases v with
  | ref a => exact lv_astore C.1 C.2.1 hd hL.has hn rfl (fun arr' h' => k p l e s m args below meth c C S H locs arr' hH (LV.st1 (v := .ref a) h' ho))
  | float a => exact lv_astore C.1 C.2.1 hd hL.has hn rfl (fun arr' h' => k p l e s m args below meth c C S H locs arr' hH (LV.st1 (v := .float a) h' ho))
  | null => exact lv_astoreN C.1 C.2.1 hd hL.has hn rfl (fun arr' h' => k p l e s m args below meth c C S H locs arr' hH (LV.st1 (v := .null) h' ho))
  | _ => cases hv
theorem r_iinc {i : Nat} {n : Int} {x v : Int32} {ls1 : List (Option Value)} (pc' : Nat) (hd : decode X.2.1 pc = .ok (.iinc i n, 3)) (hp : pc + 3 = pc') (hn : i < X.2.2.1) (hl : ls[i]? = some (some (.int x))) (ho : okS ls i = true) (hv : x + Int32.ofInt n = v) (hs : ls.set i (some (.int v)) = ls1) (k : Rn Γ X R sc FZ kc ks w pc' ls1 st) : Rn Γ X R sc FZ kc ks w pc ls st := by
  subst hp
  subst hs
  intro p l e s m args below meth c C S H locs arr hH hL
  obtain ⟨j, hj⟩ := List.getElem?_of_mem (lvl_in (Γ := Γ) hl)
  exact lv_iinc C.1 C.2.1 hd hL.has hj hv hn rfl (fun arr' h' => k p l e s m args below meth c C S H locs arr' hH (LV.st1 (v := .int v) h' ho))
theorem r_if_eq {a : Int32} {off : Int} (tgt pc' : Nat) (hd : decode X.2.1 pc = .ok (.ifCond .eq off, 3)) (ht : (pc : Int) + off = (tgt : Int)) (hp : pc + 3 = pc') (kt : a = 0 → Rn Γ X R sc FZ kc ks w tgt ls st) (kf : ¬ (a = 0) → Rn Γ X R sc FZ kc ks w pc' ls st) : Rn Γ X R sc FZ kc ks w pc ls (.int a :: st) := by
  subst hp
  intro p l e s m args below meth c C S H locs arr hH hL
  exact lv_if_eq C.1 C.2.1 hd ht (fun q => kt (by first | exact q | simpa using q) p l e s m args below meth c C S H locs arr hH hL) (fun q => kf (by first | exact q | simpa using q) p l e s m args below meth c C S H locs arr hH hL)
theorem r_icmp_eq {a b : Int32} {off : Int} (tgt pc' : Nat) (hd : decode X.2.1 pc = .ok (.if_icmp .eq off, 3)) (ht : (pc : Int) + off = (tgt : Int)) (hp : pc + 3 = pc') (kt : a = b → Rn Γ X R sc FZ kc ks w tgt ls st) (kf : ¬ (a = b) → Rn Γ X R sc FZ kc ks w pc' ls st) : Rn Γ X R sc FZ kc ks w pc ls (.int b :: .int a :: st) := by
  subst hp
  intro p l e s m args below meth c C S H locs arr hH hL
  exact lv_icmp_eq C.1 C.2.1 hd ht (fun q => kt (by first | exact q | simpa using q) p l e s m args below meth c C S H locs arr hH hL) (fun q => kf (by first | exact q | simpa using q) p l e s m args below meth c C S H locs arr hH hL)
theorem r_if_ne {a : Int32} {off : Int} (tgt pc' : Nat) (hd : decode X.2.1 pc = .ok (.ifCond .ne off, 3)) (ht : (pc : Int) + off = (tgt : Int)) (hp : pc + 3 = pc') (kt : ¬ a = 0 → Rn Γ X R sc FZ kc ks w tgt ls st) (kf : a = 0 → Rn Γ X R sc FZ kc ks w pc' ls st) : Rn Γ X R sc FZ kc ks w pc ls (.int a :: st) := by
  subst hp
  intro p l e s m args below meth c C S H locs arr hH hL
  exact lv_if_ne C.1 C.2.1 hd ht (fun q => kt (by first | exact q | simpa using q) p l e s m args below meth c C S H locs arr hH hL) (fun q => kf (by first | exact q | simpa using q) p l e s m args below meth c C S H locs arr hH hL)
theorem r_icmp_ne {a b : Int32} {off : Int} (tgt pc' : Nat) (hd : decode X.2.1 pc = .ok (.if_icmp .ne off, 3)) (ht : (pc : Int) + off = (tgt : Int)) (hp : pc + 3 = pc') (kt : ¬ a = b → Rn Γ X R sc FZ kc ks w tgt ls st) (kf : a = b → Rn Γ X R sc FZ kc ks w pc' ls st) : Rn Γ X R sc FZ kc ks w pc ls (.int b :: .int a :: st) := by
  subst hp
  intro p l e s m args below meth c C S H locs arr hH hL
  exact lv_icmp_ne C.1 C.2.1 hd ht (fun q => kt (by first | exact q | simpa using q) p l e s m args below meth c C S H locs arr hH hL) (fun q => kf (by first | exact q | simpa using q) p l e s m args below meth c C S H locs arr hH hL)
theorem r_if_lt {a : Int32} {off : Int} (tgt pc' : Nat) (hd : decode X.2.1 pc = .ok (.ifCond .lt off, 3)) (ht : (pc : Int) + off = (tgt : Int)) (hp : pc + 3 = pc') (kt : a < 0 → Rn Γ X R sc FZ kc ks w tgt ls st) (kf : ¬ (a < 0) → Rn Γ X R sc FZ kc ks w pc' ls st) : Rn Γ X R sc FZ kc ks w pc ls (.int a :: st) := by
  subst hp
  intro p l e s m args below meth c C S H locs arr hH hL
  exact lv_if_lt C.1 C.2.1 hd ht (fun q => kt (by first | exact q | simpa using q) p l e s m args below meth c C S H locs arr hH hL) (fun q => kf (by first | exact q | simpa using q) p l e s m args below meth c C S H locs arr hH hL)
theorem r_icmp_lt {a b : Int32} {off : Int} (tgt pc' : Nat) (hd : decode X.2.1 pc = .ok (.if_icmp .lt off, 3)) (ht : (pc : Int) + off = (tgt : Int)) (hp : pc + 3 = pc') (kt : a < b → Rn Γ X R sc FZ kc ks w tgt ls st) (kf : ¬ (a < b) → Rn Γ X R sc FZ kc ks w pc' ls st) : Rn Γ X R sc FZ kc ks w pc ls (.int b :: .int a :: st) := by
  subst hp
  intro p l e s m args below meth c C S H locs arr hH hL
  exact lv_icmp_lt C.1 C.2.1 hd ht (fun q => kt (by first | exact q | simpa using q) p l e s m args below meth c C S H locs arr hH hL) (fun q => kf (by first | exact q | simpa using q) p l e s m args below meth c C S H locs arr hH hL)
theorem r_if_ge {a : Int32} {off : Int} (tgt pc' : Nat) (hd : decode X.2.1 pc = .ok (.ifCond .ge off, 3)) (ht : (pc : Int) + off = (tgt : Int)) (hp : pc + 3 = pc') (kt : 0 ≤ a → Rn Γ X R sc FZ kc ks w tgt ls st) (kf : ¬ (0 ≤ a) → Rn Γ X R sc FZ kc ks w pc' ls st) : Rn Γ X R sc FZ kc ks w pc ls (.int a :: st) := by
  subst hp
  intro p l e s m args below meth c C S H locs arr hH hL
  exact lv_if_ge C.1 C.2.1 hd ht (fun q => kt (by first | exact q | simpa using q) p l e s m args below meth c C S H locs arr hH hL) (fun q => kf (by first | exact q | simpa using q) p l e s m args below meth c C S H locs arr hH hL)
theorem r_icmp_ge {a b : Int32} {off : Int} (tgt pc' : Nat) (hd : decode X.2.1 pc = .ok (.if_icmp .ge off, 3)) (ht : (pc : Int) + off = (tgt : Int)) (hp : pc + 3 = pc') (kt : b ≤ a → Rn Γ X R sc FZ kc ks w tgt ls st) (kf : ¬ (b ≤ a) → Rn Γ X R sc FZ kc ks w pc' ls st) : Rn Γ X R sc FZ kc ks w pc ls (.int b :: .int a :: st) := by
  subst hp
  intro p l e s m args below meth c C S H locs arr hH hL
  exact lv_icmp_ge C.1 C.2.1 hd ht (fun q => kt (by first | exact q | simpa using q) p l e s m args below meth c C S H locs arr hH hL) (fun q => kf (by first | exact q | simpa using q) p l e s m args below meth c C S H locs arr hH hL)
theorem r_if_gt {a : Int32} {off : Int} (tgt pc' : Nat) (hd : decode X.2.1 pc = .ok (.ifCond .gt off, 3)) (ht : (pc : Int) + off = (tgt : Int)) (hp : pc + 3 = pc') (kt : 0 < a → Rn Γ X R sc FZ kc ks w tgt ls st) (kf : ¬ (0 < a) → Rn Γ X R sc FZ kc ks w pc' ls st) : Rn Γ X R sc FZ kc ks w pc ls (.int a :: st) := by
  subst hp
  intro p l e s m args below meth c C S H locs arr hH hL
  exact lv_if_gt C.1 C.2.1 hd ht (fun q => kt (by first | exact q | simpa using q) p l e s m args below meth c C S H locs arr hH hL) (fun q => kf (by first | exact q | simpa using q) p l e s m args below meth c C S H locs arr hH hL)
theorem r_icmp_gt {a b : Int32} {off : Int} (tgt pc' : Nat) (hd : decode X.2.1 pc = .ok (.if_icmp .gt off, 3)) (ht : (pc : Int) + off = (tgt : Int)) (hp : pc + 3 = pc') (kt : b < a → Rn Γ X R sc FZ kc ks w tgt ls st) (kf : ¬ (b < a) → Rn Γ X R sc FZ kc ks w pc' ls st) : Rn Γ X R sc FZ kc ks w pc ls (.int b :: .int a :: st) := by
  subst hp
  intro p l e s m args below meth c C S H locs arr hH hL
  exact lv_icmp_gt C.1 C.2.1 hd ht (fun q => kt (by first | exact q | simpa using q) p l e s m args below meth c C S H locs arr hH hL) (fun q => kf (by first | exact q | simpa using q) p l e s m args below meth c C S H locs arr hH hL)
theorem r_if_le {a : Int32} {off : Int} (tgt pc' : Nat) (hd : decode X.2.1 pc = .ok (.ifCond .le off, 3)) (ht : (pc : Int) + off = (tgt : Int)) (hp : pc + 3 = pc') (kt : a ≤ 0 → Rn Γ X R sc FZ kc ks w tgt ls st) (kf : ¬ (a ≤ 0) → Rn Γ X R sc FZ kc ks w pc' ls st) : Rn Γ X R sc FZ kc ks w pc ls (.int a :: st) := by
  subst hp
  intro p l e s m args below meth c C S H locs arr hH hL
  exact lv_if_le C.1 C.2.1 hd ht (fun q => kt (by first | exact q | simpa using q) p l e s m args below meth c C S H locs arr hH hL) (fun q => kf (by first | exact q | simpa using q) p l e s m args below meth c C S H locs arr hH hL)
theorem r_icmp_le {a b : Int32} {off : Int} (tgt pc' : Nat) (hd : decode X.2.1 pc = .ok (.if_icmp .le off, 3)) (ht : (pc : Int) + off = (tgt : Int)) (hp : pc + 3 = pc') (kt : a ≤ b → Rn Γ X R sc FZ kc ks w tgt ls st) (kf : ¬ (a ≤ b) → Rn Γ X R sc FZ kc ks w pc' ls st) : Rn Γ X R sc FZ kc ks w pc ls (.int b :: .int a :: st) := by
  subst hp
  intro p l e s m args below meth c C S H locs arr hH hL
  exact lv_icmp_le C.1 C.2.1 hd ht (fun q => kt (by first | exact q | simpa using q) p l e s m args below meth c C S H locs arr hH hL) (fun q => kf (by first | exact q | simpa using q) p l e s m args below meth c C S H locs arr hH hL)
theorem r_goto {off : Int} (tgt : Nat) (hd : decode X.2.1 pc = .ok (.goto off, 3)) (ht : (pc : Int) + off = (tgt : Int)) (k : Rn Γ X R sc FZ kc ks w tgt ls st) : Rn Γ X R sc FZ kc ks w pc ls st := by
  intro p l e s m args below meth c C S H locs arr hH hL
  exact lv_goto C.1 C.2.1 hd ht (k p l e s m args below meth c C S H locs arr hH hL)
theorem r_ifnull {a : Nat} {off : Int} (pc' : Nat) (hd : decode X.2.1 pc = .ok (.ifnull off, 3)) (hp : pc + 3 = pc') (k : Rn Γ X R sc FZ kc ks w pc' ls st) : Rn Γ X R sc FZ kc ks w pc ls (.ref a :: st) := by
  subst hp
  intro p l e s m args below meth c C S H locs arr hH hL
  exact lv_ifnull C.1 C.2.1 hd (k p l e s m args below meth c C S H locs arr hH hL)
theorem r_ifnullN {off : Int} (tgt : Nat) (hd : decode X.2.1 pc = .ok (.ifnull off, 3)) (ht : (pc : Int) + off = (tgt : Int)) (k : Rn Γ X R sc FZ kc ks w tgt ls st) : Rn Γ X R sc FZ kc ks w pc ls (.null :: st) := by
  intro p l e s m args below meth c C S H locs arr hH hL
  exact lv_ifnullN C.1 C.2.1 hd ht (k p l e s m args below meth c C S H locs arr hH hL)
theorem r_ifnonnull {a : Nat} {off : Int} (tgt : Nat) (hd : decode X.2.1 pc = .ok (.ifnonnull off, 3)) (ht : (pc : Int) + off = (tgt : Int)) (k : Rn Γ X R sc FZ kc ks w tgt ls st) : Rn Γ X R sc FZ kc ks w pc ls (.ref a :: st) := by
  intro p l e s m args below meth c C S H locs arr hH hL
  exact lv_ifnonnull C.1 C.2.1 hd ht (k p l e s m args below meth c C S H locs arr hH hL)
theorem r_ifnonnullN {off : Int} (pc' : Nat) (hd : decode X.2.1 pc = .ok (.ifnonnull off, 3)) (hp : pc + 3 = pc') (k : Rn Γ X R sc FZ kc ks w pc' ls st) : Rn Γ X R sc FZ kc ks w pc ls (.null :: st) := by
  subst hp
  intro p l e s m args below meth c C S H locs arr hH hL
  exact lv_ifnonnullN C.1 C.2.1 hd (k p l e s m args below meth c C S H locs arr hH hL)
theorem r_sw_out {dflt lo hi : Int} {offs : Array Int} {len : Nat} {a : Int32} (tgt : Nat) (hd : decode X.2.1 pc = .ok (.tableswitch dflt lo hi offs, len)) (h : a.toInt < lo ∨ hi < a.toInt) (ht : (pc : Int) + dflt = (tgt : Int)) (k : Rn Γ X R sc FZ kc ks w tgt ls st) : Rn Γ X R sc FZ kc ks w pc ls (.int a :: st) := by
  intro p l e s m args below meth c C S H locs arr hH hL
  exact lv_tableOut C.1 C.2.1 hd h ht (k p l e s m args below meth c C S H locs arr hH hL)
theorem r_sw_in {dflt lo hi : Int} {offs : Array Int} {len : Nat} {a : Int32} {off : Int} (tgt : Nat) (hd : decode X.2.1 pc = .ok (.tableswitch dflt lo hi offs, len)) (h1 : ¬ a.toInt < lo) (h2 : ¬ hi < a.toInt) (ho : offs[(a.toInt - lo).toNat]? = some off) (ht : (pc : Int) + off = (tgt : Int)) (k : Rn Γ X R sc FZ kc ks w tgt ls st) : Rn Γ X R sc FZ kc ks w pc ls (.int a :: st) := by
  intro p l e s m args below meth c C S H locs arr hH hL
  exact lv_tableIn C.1 C.2.1 hd h1 h2 ho ht (k p l e s m args below meth c C S H locs arr hH hL)
end RULES
