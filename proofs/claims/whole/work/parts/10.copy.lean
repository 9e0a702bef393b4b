/-! ===== arraycopy of a whole array ===== -/
section COPY
variable {Γ : CT} {X : MX} {R : Room} {sc : Option (Nat × (Nat → Int32))} {FZ : FX} {kc ks mc ms : Nat} {w : PW} {pc : Nat} {ls : List (Option Value)} {st : List Value}
theorem arrV_ext {c : ClassId} {n : Nat} {f g : Nat → Value} (h : ∀ k, k < n → f k = g k) : arrV c n f = arrV c n g := by
  unfold arrV
  congr 1
  apply Array.ext (by simp)
  intro i h1 h2
  simp at h1
  simp [h i h1]
theorem r_copyI {idx src dst n : Nat} {f g : Nat → Int32} {x0 x1 x2 : Int32} (pc' : Nat) (hd : decode X.2.1 pc = .ok (.invokestatic idx, 3)) (hp : pc + 3 = pc') (hw0 : w[src]? = some (aI n f)) (hw1 : w[dst]? = some (aI n g)) (h0 : x0 = 0) (h1 : x1 = 0) (h2 : x2 = nI n) (hn : n < 2147483648)
    (hl : Cond.methodLink X.1 idx arraycopyName ∈ WT) (hnat : Cond.native arraycopyName ∈ WT) (hstat : Cond.static arraycopyName ∈ WT) (hini : Cond.initialized "java/lang/System" ∈ WT) (hst : stw st ≤ 8) (hR : 1 ≤ R.frames ∧ 30 ≤ R.locals)
    (kk : Rn Γ X R sc FZ kc ks (w.set dst (aI n f)) pc' ls st) : Rn Γ X R sc FZ kc ks w pc ls (.int x2 :: .int x1 :: .ref dst :: .int x0 :: .ref src :: st) := by
  subst hp
  subst h0
  subst h1
  subst h2
  intro p l e s m args below meth c C S H locs arr hH hL
  have hts := C.2.2.2.2.2.2.1
  have hK := C.2.2.2.2.2.2.2.1.1
  have hc0 : H[Γ.1.1 + src]? = some (vp_cell (Γ.2.2 0) (n, .inl f)) := hH.1.1 src _ (tW_get hw0)
  have hc1 : H[Γ.1.1 + dst]? = some (vp_cell (Γ.2.2 0) (n, .inl g)) := hH.1.1 dst _ (tW_get hw1)
  obtain ⟨-, k0, hk0, cm0, hkk0⟩ := (hK.2 0 _ rfl).1 n (fun j => .int (f j))
  obtain ⟨-, k1, hk1, cm1, hkk1⟩ := (hK.2 0 _ rfl).1 n (fun j => .int (g j))
  have hcl : (nI n).toNatClampNeg = n := nI_clamp hn
  have hti : (nI n).toInt = (n : Int) := nI_toInt hn
  intro T hT X0
  obtain ⟨vm', X', step⟩ := X0.arraycopy C.1 C.2.2.2.2.2.1 (hts _ hl) (hts _ hnat) (hts _ hstat) (hts _ hini) (src := Γ.1.1 + src) (dst := Γ.1.1 + dst) (cs := vp_cell (Γ.2.2 0) (n, .inl f)) (cd := vp_cell (Γ.2.2 0) (n, .inl g)) (srcPos := 0) (destPos := 0) (n := nI n) (by rw [hT]; exact hc0) (by rw [hT]; exact hc1)
    (fun _ h => by cases h) (fun _ h => by cases h) (fun h => by cases h) (fun h => by cases h) hk0 hk1 hkk0 hkk1 (by simp [refKind]) (by decide) (by decide) (nI_pos hn)
    (by rw [hti]; show ¬ (0 : Int) + (n : Int) > ((arrV (Γ.2.2 0) n (fun j => .int (f j))).slots.size : Int); rw [arrV_size]; omega)
    (by rw [hti]; show ¬ (0 : Int) + (n : Int) > ((arrV (Γ.2.2 0) n (fun j => .int (g j))).slots.size : Int); rw [arrV_size]; omega)
    (fun vm₁ _ i hi => by
      rw [hcl] at hi
      have e : (vp_cell (Γ.2.2 0) (n, .inl f)).slots.getD ((0 : Int32).toNatClampNeg + i) .null = .int (f i) := by
        show (arrV (Γ.2.2 0) n (fun j => .int (f j))).slots.getD (0 + i) _ = _
        rw [Nat.zero_add, Array.getD_eq_getD_getElem?, arrV_read _ _ hi]
        rfl
      refine ⟨?_, ?_⟩
      · rw [e]
        rfl
      · rw [e]
        exact trivial)
    (g := F0 m pc arr (.int (nI n) :: .int 0 :: .ref (Γ.1.1 + dst) :: .int 0 :: .ref (Γ.1.1 + src) :: st.map (tv Γ))) rfl (by rw [C.2.2.1]; exact hL.1) (rest := st.map (tv Γ)) rfl (by rw [C.2.1]; exact hd) hR.1 (by show 2 * 0 + ((st.map (tv Γ)).map fun v => v.category).sum + (7 + 11) ≤ _; rw [stw_tv]; omega)
  have e1 : copied (vp_cell (Γ.2.2 0) (n, .inl f)) (vp_cell (Γ.2.2 0) (n, .inl g)) 0 0 (nI n) = vp_cell (Γ.2.2 0) (n, .inl f) := by
    have h := va_copied (fun z => .int z) (Γ.2.2 0) (Γ.2.2 0) f g (sp := 0) (dp := 0) (n := n) (n0 := n) (n1 := n) (by omega)
    have h5 : ∀ (cs cd : Cell), copied cs cd 0 0 (nI n) = cd.storeRun 0 (cs.stretch 0 n) := fun cs cd => by show cd.storeRun 0 (cs.stretch 0 (nI n).toNatClampNeg) = _; rw [hcl]
    refine (h5 _ _).trans (Eq.trans h ?_)
    show _ = arrV (Γ.2.2 0) n (fun j => .int (f j))
    refine arrV_ext fun k hk => ?_
    have : va_cpy f g 0 0 n k = f k := by rw [pk_cpy_in (by omega) (by omega)]; simp
    exact congrArg _ this
  rw [e1] at X' step
  have hl1 : Γ.1.1 + dst < H.size := (Array.getElem?_eq_some_iff.mp hc1).1
  have hheap : ((T.setVm vm').setCell (Γ.1.1 + dst) (vp_cell (Γ.2.2 0) (n, .inl f))).heap = H.setIfInBounds (Γ.1.1 + dst) (vp_cell (Γ.2.2 0) (n, .inl f)) := by rw [← hT]; rfl
  have oq : ∀ q : Nat, q ≠ Γ.1.1 + dst → (H.setIfInBounds (Γ.1.1 + dst) (vp_cell (Γ.2.2 0) (n, .inl f)))[q]? = H[q]? := fun q hq => by simp [Array.getElem?_setIfInBounds, Ne.symm hq]
  have hup := hH.up (j := 0) (c := aI n f) hw1 (show (H.setIfInBounds (Γ.1.1 + dst) _)[Γ.1.1 + dst]? = some _ by simp [Array.getElem?_setIfInBounds, hl1]) (by simp) oq
  obtain ⟨t, a1, b1⟩ := kk p l e s m args below meth c C S _ _ arr ⟨hup.1, ⟨hup.2.1.1, hup.2.1.2.1, fun q hq => by
      rcases List.mem_append.mp hq with h | h
      · exact hH.2.1.2.2 q h
      · obtain ⟨z, -, hz⟩ := List.mem_map.mp h
        rw [← hz]
        exact Nat.le_add_right _ _⟩, hup.2.2⟩ hL _ hheap X'
  exact ⟨t, step t a1, b1⟩
theorem r_copyL {idx src dst n : Nat} {f g : Nat → Int64} {x0 x1 x2 : Int32} (pc' : Nat) (hd : decode X.2.1 pc = .ok (.invokestatic idx, 3)) (hp : pc + 3 = pc') (hw0 : w[src]? = some (aL n f)) (hw1 : w[dst]? = some (aL n g)) (h0 : x0 = 0) (h1 : x1 = 0) (h2 : x2 = nI n) (hn : n < 2147483648)
    (hl : Cond.methodLink X.1 idx arraycopyName ∈ WT) (hnat : Cond.native arraycopyName ∈ WT) (hstat : Cond.static arraycopyName ∈ WT) (hini : Cond.initialized "java/lang/System" ∈ WT) (hst : stw st ≤ 8) (hR : 1 ≤ R.frames ∧ 30 ≤ R.locals)
    (kk : Rn Γ X R sc FZ kc ks (w.set dst (aL n f)) pc' ls st) : Rn Γ X R sc FZ kc ks w pc ls (.int x2 :: .int x1 :: .ref dst :: .int x0 :: .ref src :: st) := by
  subst hp
  subst h0
  subst h1
  subst h2
  intro p l e s m args below meth c C S H locs arr hH hL
  have hts := C.2.2.2.2.2.2.1
  have hK := C.2.2.2.2.2.2.2.1.1
  have hc0 : H[Γ.1.1 + src]? = some (vp_cell (Γ.2.2 3) (n, .inr (.inl f))) := hH.1.1 src _ (tW_get hw0)
  have hc1 : H[Γ.1.1 + dst]? = some (vp_cell (Γ.2.2 3) (n, .inr (.inl g))) := hH.1.1 dst _ (tW_get hw1)
  obtain ⟨-, k0, hk0, cm0, hkk0⟩ := (hK.2 3 _ rfl).1 n (fun j => .long (f j))
  obtain ⟨-, k1, hk1, cm1, hkk1⟩ := (hK.2 3 _ rfl).1 n (fun j => .long (g j))
  have hcl : (nI n).toNatClampNeg = n := nI_clamp hn
  have hti : (nI n).toInt = (n : Int) := nI_toInt hn
  intro T hT X0
  obtain ⟨vm', X', step⟩ := X0.arraycopy C.1 C.2.2.2.2.2.1 (hts _ hl) (hts _ hnat) (hts _ hstat) (hts _ hini) (src := Γ.1.1 + src) (dst := Γ.1.1 + dst) (cs := vp_cell (Γ.2.2 3) (n, .inr (.inl f))) (cd := vp_cell (Γ.2.2 3) (n, .inr (.inl g))) (srcPos := 0) (destPos := 0) (n := nI n) (by rw [hT]; exact hc0) (by rw [hT]; exact hc1)
    (fun _ h => by cases h) (fun _ h => by cases h) (fun h => by cases h) (fun h => by cases h) hk0 hk1 hkk0 hkk1 (by simp [refKind]) (by decide) (by decide) (nI_pos hn)
    (by rw [hti]; show ¬ (0 : Int) + (n : Int) > ((arrV (Γ.2.2 3) n (fun j => .long (f j))).slots.size : Int); rw [arrV_size]; omega)
    (by rw [hti]; show ¬ (0 : Int) + (n : Int) > ((arrV (Γ.2.2 3) n (fun j => .long (g j))).slots.size : Int); rw [arrV_size]; omega)
    (fun vm₁ _ i hi => by
      rw [hcl] at hi
      have e : (vp_cell (Γ.2.2 3) (n, .inr (.inl f))).slots.getD ((0 : Int32).toNatClampNeg + i) .null = .long (f i) := by
        show (arrV (Γ.2.2 3) n (fun j => .long (f j))).slots.getD (0 + i) _ = _
        rw [Nat.zero_add, Array.getD_eq_getD_getElem?, arrV_read _ _ hi]
        rfl
      refine ⟨?_, ?_⟩
      · rw [e]
        rfl
      · rw [e]
        exact trivial)
    (g := F0 m pc arr (.int (nI n) :: .int 0 :: .ref (Γ.1.1 + dst) :: .int 0 :: .ref (Γ.1.1 + src) :: st.map (tv Γ))) rfl (by rw [C.2.2.1]; exact hL.1) (rest := st.map (tv Γ)) rfl (by rw [C.2.1]; exact hd) hR.1 (by show 2 * 0 + ((st.map (tv Γ)).map fun v => v.category).sum + (7 + 11) ≤ _; rw [stw_tv]; omega)
  have e1 : copied (vp_cell (Γ.2.2 3) (n, .inr (.inl f))) (vp_cell (Γ.2.2 3) (n, .inr (.inl g))) 0 0 (nI n) = vp_cell (Γ.2.2 3) (n, .inr (.inl f)) := by
    have h := va_copied (fun z => .long z) (Γ.2.2 3) (Γ.2.2 3) f g (sp := 0) (dp := 0) (n := n) (n0 := n) (n1 := n) (by omega)
    have h5 : ∀ (cs cd : Cell), copied cs cd 0 0 (nI n) = cd.storeRun 0 (cs.stretch 0 n) := fun cs cd => by show cd.storeRun 0 (cs.stretch 0 (nI n).toNatClampNeg) = _; rw [hcl]
    refine (h5 _ _).trans (Eq.trans h ?_)
    show _ = arrV (Γ.2.2 3) n (fun j => .long (f j))
    refine arrV_ext fun k hk => ?_
    have : va_cpy f g 0 0 n k = f k := by rw [pk_cpy_in (by omega) (by omega)]; simp
    exact congrArg _ this
  rw [e1] at X' step
  have hl1 : Γ.1.1 + dst < H.size := (Array.getElem?_eq_some_iff.mp hc1).1
  have hheap : ((T.setVm vm').setCell (Γ.1.1 + dst) (vp_cell (Γ.2.2 3) (n, .inr (.inl f)))).heap = H.setIfInBounds (Γ.1.1 + dst) (vp_cell (Γ.2.2 3) (n, .inr (.inl f))) := by rw [← hT]; rfl
  have oq : ∀ q : Nat, q ≠ Γ.1.1 + dst → (H.setIfInBounds (Γ.1.1 + dst) (vp_cell (Γ.2.2 3) (n, .inr (.inl f))))[q]? = H[q]? := fun q hq => by simp [Array.getElem?_setIfInBounds, Ne.symm hq]
  have hup := hH.up (j := 0) (c := aL n f) hw1 (show (H.setIfInBounds (Γ.1.1 + dst) _)[Γ.1.1 + dst]? = some _ by simp [Array.getElem?_setIfInBounds, hl1]) (by simp) oq
  obtain ⟨t, a1, b1⟩ := kk p l e s m args below meth c C S _ _ arr ⟨hup.1, ⟨hup.2.1.1, hup.2.1.2.1, fun q hq => by
      rcases List.mem_append.mp hq with h | h
      · exact hH.2.1.2.2 q h
      · obtain ⟨z, -, hz⟩ := List.mem_map.mp h
        rw [← hz]
        exact Nat.le_add_right _ _⟩, hup.2.2⟩ hL _ hheap X'
  exact ⟨t, step t a1, b1⟩
end COPY
