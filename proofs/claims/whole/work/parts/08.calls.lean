/-! ===== making objects, copying arrays, calls, ends ===== -/
def stw (st : List Value) : Nat := (st.map fun v => v.category).sum
theorem stw_tv (Γ : CT) (st : List Value) : ((st.map (tv Γ)).map fun v => v.category).sum = stw st := by
  unfold stw
  rw [List.map_map]
  congr 1
  exact List.map_congr_left fun v _ => tv_cat Γ v
/-- behind a call, whatever it was -/
theorem mc_call {p : Program} {l : Launch} {e : Env} {R : Room} {s : State} {m : MethodId} {args : Array Value} {below : List Frame} {meth : Method} {c : Code} {H : Heap} {locs : List Loc} {cells slots mc ms pc : Nat} {Q : State → Prop} {arr : Array Slot} {st0 rest : List Value} {Qa : State → Outcome → State → Prop} {free : Addr → Prop}
    (hr : va_Run p l e R s m args below meth c H locs cells slots mc ms (F0 m pc arr st0) rest Qa free)
    (kk : ∀ (v : Option Value) (st₁ t : State) (L : List Loc), st₁.heap = H → Qa st₁ (.returned v) t → (∀ q ∈ L, free q.base) → W p l e R s m args below meth c t.heap (locs ++ L) (cells + mc) (slots + ms) Q (F0 m (pc + 3) arr (v.toList ++ rest))) : W p l e R s m args below meth c H locs cells slots Q (F0 m pc arr st0) := by
  intro T hT X
  obtain ⟨v, st₁, t, T', L, h0, X', hL, e1, e2, hQ, st⟩ := hr T hT X
  obtain ⟨t2, a1, b1⟩ := kk v st₁ t L h0 hQ hL T' e1 X'
  exact ⟨t2, st t2 a1, b1⟩
theorem HX.back {Γ : CT} {w w1 : PW} {s st₁ t : State} {H : Heap} {locs L : List Loc} (hH : HX Γ w s H locs) (h0 : st₁.heap = H) (hW : HW Γ w1 t.heap) (hF : va_F (fun q => Γ.1.1 ≤ q) st₁ t) (hL : ∀ q ∈ L, Γ.1.1 ≤ q.base) : HX Γ w1 s t.heap (locs ++ L) := by
  subst h0
  refine ⟨hW, ⟨Nat.le_trans hH.2.1.1 hF.1, fun q h1 h2 => (hF.2 q (Nat.lt_of_lt_of_le h1 hH.2.1.1) h2).trans (hH.2.1.2.1 q h1 h2), fun q hq => ?_⟩, hH.2.2⟩
  rcases List.mem_append.mp hq with h | h
  · exact hH.2.1.2.2 q h
  · exact hL q h
theorem Pc_blind {Γ : CT} {w : PW} {av : List Value} : FrameBlind (va_Pc av (fun U => HW Γ w U.heap ∧ KK Γ U)) := fun _ _ _ _ q => ⟨q.1, q.2.1, q.2.2.same rfl⟩
/-- a made method's facts -/
def kM (y : MethodName) (Xc : MX) (n : Nat) : Prop := Cond.code y Xc.2.1 Xc.2.2.1 Xc.2.2.2.1 ∈ WT ∧ Cond.initialized y.cls ∈ WT ∧ y.cls ≠ "java/lang/invoke/MethodHandle" ∧ y.cls ≠ "java/lang/invoke/VarHandle" ∧ (parseMethodDescriptor y.desc).map (fun d => d.parameters.length) = some n
def kS (own : String) (idx : Nat) (y : MethodName) : Prop := Cond.methodLink own idx y ∈ WT ∧ Cond.static y ∈ WT
def kSN (own : String) (idx : Nat) (y : MethodName) : Prop := (∃ h, Cond.methodLinkNest own idx y h ∈ lw_tbl) ∧ Cond.static y ∈ WT
def kV (own : String) (idx : Nat) (y : MethodName) : Prop := Cond.methodLink own idx y ∈ WT ∧ Cond.instanceMethod y ∈ WT ∧ Cond.selects y.cls y y ∈ WT
def kI (own : String) (idx : Nat) (y : MethodName) : Prop := Cond.methodLink own idx y ∈ WT ∧ Cond.instanceMethod y ∈ WT ∧ y.name = "<init>"
def kIN (own : String) (idx : Nat) (y : MethodName) : Prop := (∃ h, Cond.methodLinkNest own idx y h ∈ lw_tbl) ∧ Cond.instanceMethod y ∈ WT ∧ y.name = "<init>"
theorem WS_in {y : MethodName} {Xc : MX} (h : Cond.code y Xc.2.1 Xc.2.2.1 Xc.2.2.2.1 ∈ WT) : GoodIn WT (Cond.code y Xc.2.1 Xc.2.2.1 Xc.2.2.2.1 :: WT) := fun w hw => (List.mem_cons.mp hw).elim (fun e => e ▸ WT_good _ h) (WT_good w)
section CALLS
variable {Γ : CT} {X : MX} {R : Room} {sc : Option (Nat × (Nat → Int32))} {FZ : FX} {kc ks : Nat} {w : PW} {pc : Nat} {ls : List (Option Value)} {st stk : List Value}
theorem fits_room {d nL : Nat} (mc ms : Nat) (h : d < R.frames ∧ 19 + nL + 40 * d ≤ R.locals) : (rmO d mc ms).frames + 1 ≤ R.frames ∧ 8 + (nL + 11) + (rmO d mc ms).locals ≤ R.locals := ⟨h.1, by show 8 + (nL + 11) + 40 * d ≤ _; omega⟩
theorem r_callS {idx d mc ms : Nat} {y : MethodName} {Xc : MX} {As : List Value} {Q1 : Option Value → PW → Prop} (pc' : Nat) (hd : decode X.2.1 pc = .ok (.invokestatic idx, 3)) (hp : pc + 3 = pc') (hC : Cl Γ y Xc d mc ms As w Q1) (hk : kS X.1 idx y) (hm : kM y Xc As.length) (hs : As.reverse ++ st = stk) (hroom : d < R.frames ∧ 19 + Xc.2.2.1 + 40 * d ≤ R.locals) (hst : stw st ≤ 8) (hcs : kc + mc ≤ R.cells ∧ ks + ms ≤ R.slots) (kk : ∀ (r : Option Value) (w1 : PW), Q1 r w1 → Rn Γ X R sc FZ (kc + mc) (ks + ms) w1 pc' ls (r.toList ++ st)) : Rn Γ X R sc FZ kc ks w pc ls stk := by
  subst hp
  subst hs
  intro p l e s m args below meth c C S H locs arr hH hL
  obtain ⟨m1, m2, m3, m4, m5⟩ := hm
  have hS' : CallFix p m c X.2.1 X.2.2.1 s args WT X.1 := ⟨C.1, C.2.1, C.2.2.1, C.2.2.2.2.2.1, C.2.2.2.2.2.2.1⟩
  have hts := C.2.2.2.2.2.2.1
  have hPc : ∀ U : State, U.heap = H → s.WarmedH U.vm → va_Pc ((As).map (tv Γ)) (fun U => HW Γ w U.heap ∧ KK Γ U) (((As).map (tv Γ)).toArray) U := fun U hU hWm => ⟨rfl, by show HW Γ w U.heap; rw [hU]; exact hH.1, C.2.2.2.2.2.2.2.1.warm hWm⟩
  rw [show (As.reverse ++ st).map (tv Γ) = (As.map (tv Γ)).reverse ++ st.map (tv Γ) by simp [tv]]
  have hwst : 2 * (F0 m pc arr ((As.map (tv Γ)).reverse ++ st.map (tv Γ))).monitorRoom + ((st.map (tv Γ)).map fun v => v.category).sum ≤ 8 := lv_room (by rw [stw_tv]; exact hst)
  refine mc_call (Qa := Qc Γ Q1 (As.map (tv Γ)).toArray) (va_runS (As := As.map (tv Γ)) (n := As.length) hS' (hC l) ⟨callB_of As.length C.2.2.2.2.2.2.1 (WS_in m1) rfl rfl rfl (C.2.2.2.2.2.2.1 _ m2) (C.2.2.2.2.2.2.1 _ hk.1) ⟨m3, m4, m5⟩ (fits_room mc ms hroom), hts _ hk.2⟩ ⟨Pc_blind, hPc⟩ rfl (by simp) hL.1 rfl hwst hd hcs) (fun v st₁ t L h0 hq hL1 => ?_)
  obtain ⟨r, w1, e1, hQ, hW1, hF⟩ := hq
  cases e1
  have h2 := kk r w1 hQ p l e s m args below meth c C S t.heap (locs ++ L) arr (hH.back h0 hW1 hF hL1) hL
  rw [List.map_append] at h2
  rw [show (r.map (tv Γ)).toList = r.toList.map (tv Γ) by cases r <;> rfl]
  exact h2
theorem r_callSN {idx d mc ms : Nat} {y : MethodName} {Xc : MX} {As : List Value} {Q1 : Option Value → PW → Prop} (pc' : Nat) (hd : decode X.2.1 pc = .ok (.invokestatic idx, 3)) (hp : pc + 3 = pc') (hC : Cl Γ y Xc d mc ms As w Q1) (hk : kSN X.1 idx y) (hm : kM y Xc As.length) (hs : As.reverse ++ st = stk) (hroom : d < R.frames ∧ 19 + Xc.2.2.1 + 40 * d ≤ R.locals) (hst : stw st ≤ 8) (hcs : kc + mc ≤ R.cells ∧ ks + ms ≤ R.slots) (kk : ∀ (r : Option Value) (w1 : PW), Q1 r w1 → Rn Γ X R sc FZ (kc + mc) (ks + ms) w1 pc' ls (r.toList ++ st)) : Rn Γ X R sc FZ kc ks w pc ls stk := by
  subst hp
  subst hs
  intro p l e s m args below meth c C S H locs arr hH hL
  obtain ⟨m1, m2, m3, m4, m5⟩ := hm
  obtain ⟨⟨host, hn⟩, -⟩ := id hk
  have hS' : CallFix p m c X.2.1 X.2.2.1 s args WT X.1 := ⟨C.1, C.2.1, C.2.2.1, C.2.2.2.2.2.1, C.2.2.2.2.2.2.1⟩
  have hts := C.2.2.2.2.2.2.1
  have hPc : ∀ U : State, U.heap = H → s.WarmedH U.vm → va_Pc ((As).map (tv Γ)) (fun U => HW Γ w U.heap ∧ KK Γ U) (((As).map (tv Γ)).toArray) U := fun U hU hWm => ⟨rfl, by show HW Γ w U.heap; rw [hU]; exact hH.1, C.2.2.2.2.2.2.2.1.warm hWm⟩
  rw [show (As.reverse ++ st).map (tv Γ) = (As.map (tv Γ)).reverse ++ st.map (tv Γ) by simp [tv]]
  have hwst : 2 * (F0 m pc arr ((As.map (tv Γ)).reverse ++ st.map (tv Γ))).monitorRoom + ((st.map (tv Γ)).map fun v => v.category).sum ≤ 8 := lv_room (by rw [stw_tv]; exact hst)
  refine mc_call (Qa := Qc Γ Q1 (As.map (tv Γ)).toArray) (va_runSN (As := As.map (tv Γ)) (n := As.length) hS' (hC l) ⟨va_cnB As.length C.2.2.2.2.2.2.1 (WS_in m1) rfl rfl rfl (C.2.2.2.2.2.2.2.1.2.1 _ _ _ _ hn) (C.2.2.2.2.2.2.1 _ m2) ⟨m3, m4, m5⟩ (fits_room mc ms hroom), hts _ hk.2, trivial⟩ ⟨Pc_blind, hPc⟩ rfl (by simp) hL.1 rfl hwst hd hcs) (fun v st₁ t L h0 hq hL1 => ?_)
  obtain ⟨r, w1, e1, hQ, hW1, hF⟩ := hq
  cases e1
  have h2 := kk r w1 hQ p l e s m args below meth c C S t.heap (locs ++ L) arr (hH.back h0 hW1 hF hL1) hL
  rw [List.map_append] at h2
  rw [show (r.map (tv Γ)).toList = r.toList.map (tv Γ) by cases r <;> rfl]
  exact h2
theorem r_callV {h ci : Nat} {fs : List Value} {idx d mc ms : Nat} {y : MethodName} {Xc : MX} {As : List Value} {Q1 : Option Value → PW → Prop} (pc' : Nat) (hd : decode X.2.1 pc = .ok (.invokevirtual idx, 3)) (hp : pc + 3 = pc') (hC : Cl Γ y Xc d mc ms (.ref h :: As) w Q1) (hk : kV X.1 idx y) (hm : kM y Xc As.length) (hs : As.reverse ++ .ref h :: st = stk) (hw : w[h]? = some (oB ci fs)) (hcl : (vwCl[ci]?).map (fun q => q.1) = some y.cls) (hroom : d < R.frames ∧ 19 + Xc.2.2.1 + 40 * d ≤ R.locals) (hst : stw st ≤ 8) (hcs : kc + mc ≤ R.cells ∧ ks + ms ≤ R.slots) (kk : ∀ (r : Option Value) (w1 : PW), Q1 r w1 → Rn Γ X R sc FZ (kc + mc) (ks + ms) w1 pc' ls (r.toList ++ st)) : Rn Γ X R sc FZ kc ks w pc ls stk := by
  subst hp
  subst hs
  intro p l e s m args below meth c C S H locs arr hH hL
  obtain ⟨m1, m2, m3, m4, m5⟩ := hm
  obtain ⟨q0, hq0, hq1⟩ : ∃ q0, vwCl[ci]? = some q0 ∧ q0.1 = y.cls := by
    cases hh : vwCl[ci]? with
    | none => rw [hh] at hcl; cases hcl
    | some q0 => rw [hh] at hcl; exact ⟨q0, rfl, Option.some.inj hcl⟩
  have hrcv : ∃ cellB : Cell, H[Γ.1.1 + h]? = some cellB ∧ cellB.vm.isStatics = false ∧ s.vm.findClass y.cls = some cellB.cls := by
    rw [← hq1]
    exact va_recv C.2.2.2.2.2.2.2.1.1 hH.1.1 hq0 (tW_get hw)
  have hS' : CallFix p m c X.2.1 X.2.2.1 s args WT X.1 := ⟨C.1, C.2.1, C.2.2.1, C.2.2.2.2.2.1, C.2.2.2.2.2.2.1⟩
  have hts := C.2.2.2.2.2.2.1
  have hPc : ∀ U : State, U.heap = H → s.WarmedH U.vm → va_Pc (((.ref h :: As)).map (tv Γ)) (fun U => HW Γ w U.heap ∧ KK Γ U) ((((.ref h :: As)).map (tv Γ)).toArray) U := fun U hU hWm => ⟨rfl, by show HW Γ w U.heap; rw [hU]; exact hH.1, C.2.2.2.2.2.2.2.1.warm hWm⟩
  rw [show (As.reverse ++ .ref h :: st).map (tv Γ) = (As.map (tv Γ)).reverse ++ .ref (Γ.1.1 + h) :: st.map (tv Γ) by simp [tv]]
  have hwst : 2 * (F0 m pc arr ((As.map (tv Γ)).reverse ++ .ref (Γ.1.1 + h) :: st.map (tv Γ))).monitorRoom + ((st.map (tv Γ)).map fun v => v.category).sum ≤ 8 := lv_room (by rw [stw_tv]; exact hst)
  refine mc_call (Qa := Qc Γ Q1 (Value.ref (Γ.1.1 + h) :: As.map (tv Γ)).toArray) (va_runV (C := y.cls) (b := Γ.1.1 + h) (As := As.map (tv Γ)) (n := As.length) hS' (hC l) ⟨callB_of As.length C.2.2.2.2.2.2.1 (WS_in m1) rfl rfl rfl (C.2.2.2.2.2.2.1 _ m2) (C.2.2.2.2.2.2.1 _ hk.1) ⟨m3, m4, m5⟩ (fits_room mc ms hroom), hts _ hk.2.1, hts _ hk.2.2⟩ ⟨Pc_blind, hrcv, hPc⟩ rfl (by simp) hL.1 rfl hwst hd hcs) (fun v st₁ t L h0 hq hL1 => ?_)
  obtain ⟨r, w1, e1, hQ, hW1, hF⟩ := hq
  cases e1
  have h2 := kk r w1 hQ p l e s m args below meth c C S t.heap (locs ++ L) arr (hH.back h0 hW1 hF hL1) hL
  rw [List.map_append] at h2
  rw [show (r.map (tv Γ)).toList = r.toList.map (tv Γ) by cases r <;> rfl]
  exact h2
theorem r_callI {h ci : Nat} {fs : List Value} {idx d mc ms : Nat} {y : MethodName} {Xc : MX} {As : List Value} {Q1 : Option Value → PW → Prop} (pc' : Nat) (hd : decode X.2.1 pc = .ok (.invokespecial idx, 3)) (hp : pc + 3 = pc') (hC : Cl Γ y Xc d mc ms (.ref h :: As) w Q1) (hk : kI X.1 idx y) (hm : kM y Xc As.length) (hs : As.reverse ++ .ref h :: st = stk) (hret : Xc.2.2.2.1 = none) (hroom : d < R.frames ∧ 19 + Xc.2.2.1 + 40 * d ≤ R.locals) (hst : stw st ≤ 8) (hcs : kc + mc ≤ R.cells ∧ ks + ms ≤ R.slots) (kk : ∀ (r : Option Value) (w1 : PW), Q1 r w1 → Rn Γ X R sc FZ (kc + mc) (ks + ms) w1 pc' ls (r.toList ++ st)) : Rn Γ X R sc FZ kc ks w pc ls stk := by
  subst hp
  subst hs
  intro p l e s m args below meth c C S H locs arr hH hL
  obtain ⟨m1, m2, m3, m4, m5⟩ := hm
  obtain ⟨Xo, Xb, Xn, Xr, Xi⟩ := Xc
  have hret : Xr = none := hret
  subst hret
  have hS' : CallFix p m c X.2.1 X.2.2.1 s args WT X.1 := ⟨C.1, C.2.1, C.2.2.1, C.2.2.2.2.2.1, C.2.2.2.2.2.2.1⟩
  have hts := C.2.2.2.2.2.2.1
  have hPc : ∀ U : State, U.heap = H → s.WarmedH U.vm → va_Pc (((.ref h :: As)).map (tv Γ)) (fun U => HW Γ w U.heap ∧ KK Γ U) ((((.ref h :: As)).map (tv Γ)).toArray) U := fun U hU hWm => ⟨rfl, by show HW Γ w U.heap; rw [hU]; exact hH.1, C.2.2.2.2.2.2.2.1.warm hWm⟩
  rw [show (As.reverse ++ .ref h :: st).map (tv Γ) = (As.map (tv Γ)).reverse ++ .ref (Γ.1.1 + h) :: st.map (tv Γ) by simp [tv]]
  have hwst : 2 * (F0 m pc arr ((As.map (tv Γ)).reverse ++ .ref (Γ.1.1 + h) :: st.map (tv Γ))).monitorRoom + ((st.map (tv Γ)).map fun v => v.category).sum ≤ 8 := lv_room (by rw [stw_tv]; exact hst)
  refine mc_call (Qa := Qc Γ Q1 (Value.ref (Γ.1.1 + h) :: As.map (tv Γ)).toArray) (va_runI (b := Γ.1.1 + h) (As := As.map (tv Γ)) (n := As.length) hS' (hC l) ⟨callB_of As.length C.2.2.2.2.2.2.1 (WS_in m1) rfl rfl rfl (C.2.2.2.2.2.2.1 _ m2) (C.2.2.2.2.2.2.1 _ hk.1) ⟨m3, m4, m5⟩ (fits_room mc ms hroom), hk.2.2, hts _ hk.2.1⟩ ⟨Pc_blind, hPc⟩ rfl (by simp) hL.1 rfl hwst hd hcs) (fun v st₁ t L h0 hq hL1 => ?_)
  obtain ⟨r, w1, e1, hQ, hW1, hF⟩ := hq
  cases e1
  have h2 := kk r w1 hQ p l e s m args below meth c C S t.heap (locs ++ L) arr (hH.back h0 hW1 hF hL1) hL
  rw [List.map_append] at h2
  rw [show (r.map (tv Γ)).toList = r.toList.map (tv Γ) by cases r <;> rfl]
  exact h2
theorem r_callIN {h ci : Nat} {fs : List Value} {idx d mc ms : Nat} {y : MethodName} {Xc : MX} {As : List Value} {Q1 : Option Value → PW → Prop} (pc' : Nat) (hd : decode X.2.1 pc = .ok (.invokespecial idx, 3)) (hp : pc + 3 = pc') (hC : Cl Γ y Xc d mc ms (.ref h :: As) w Q1) (hk : kIN X.1 idx y) (hm : kM y Xc As.length) (hs : As.reverse ++ .ref h :: st = stk) (hret : Xc.2.2.2.1 = none) (hroom : d < R.frames ∧ 19 + Xc.2.2.1 + 40 * d ≤ R.locals) (hst : stw st ≤ 8) (hcs : kc + mc ≤ R.cells ∧ ks + ms ≤ R.slots) (kk : ∀ (r : Option Value) (w1 : PW), Q1 r w1 → Rn Γ X R sc FZ (kc + mc) (ks + ms) w1 pc' ls (r.toList ++ st)) : Rn Γ X R sc FZ kc ks w pc ls stk := by
  subst hp
  subst hs
  intro p l e s m args below meth c C S H locs arr hH hL
  obtain ⟨m1, m2, m3, m4, m5⟩ := hm
  obtain ⟨⟨host, hn⟩, -⟩ := id hk
  obtain ⟨Xo, Xb, Xn, Xr, Xi⟩ := Xc
  have hret : Xr = none := hret
  subst hret
  have hS' : CallFix p m c X.2.1 X.2.2.1 s args WT X.1 := ⟨C.1, C.2.1, C.2.2.1, C.2.2.2.2.2.1, C.2.2.2.2.2.2.1⟩
  have hts := C.2.2.2.2.2.2.1
  have hPc : ∀ U : State, U.heap = H → s.WarmedH U.vm → va_Pc (((.ref h :: As)).map (tv Γ)) (fun U => HW Γ w U.heap ∧ KK Γ U) ((((.ref h :: As)).map (tv Γ)).toArray) U := fun U hU hWm => ⟨rfl, by show HW Γ w U.heap; rw [hU]; exact hH.1, C.2.2.2.2.2.2.2.1.warm hWm⟩
  rw [show (As.reverse ++ .ref h :: st).map (tv Γ) = (As.map (tv Γ)).reverse ++ .ref (Γ.1.1 + h) :: st.map (tv Γ) by simp [tv]]
  have hwst : 2 * (F0 m pc arr ((As.map (tv Γ)).reverse ++ .ref (Γ.1.1 + h) :: st.map (tv Γ))).monitorRoom + ((st.map (tv Γ)).map fun v => v.category).sum ≤ 8 := lv_room (by rw [stw_tv]; exact hst)
  refine mc_call (Qa := Qc Γ Q1 (Value.ref (Γ.1.1 + h) :: As.map (tv Γ)).toArray) (va_runIN (b := Γ.1.1 + h) (As := As.map (tv Γ)) (n := As.length) hS' (hC l) ⟨va_cnB As.length C.2.2.2.2.2.2.1 (WS_in m1) rfl rfl rfl (C.2.2.2.2.2.2.2.1.2.1 _ _ _ _ hn) (C.2.2.2.2.2.2.1 _ m2) ⟨m3, m4, m5⟩ (fits_room mc ms hroom), hk.2.2, hts _ hk.2.1⟩ ⟨Pc_blind, hPc⟩ rfl (by simp) hL.1 rfl hwst hd hcs) (fun v st₁ t L h0 hq hL1 => ?_)
  obtain ⟨r, w1, e1, hQ, hW1, hF⟩ := hq
  cases e1
  have h2 := kk r w1 hQ p l e s m args below meth c C S t.heap (locs ++ L) arr (hH.back h0 hW1 hF hL1) hL
  rw [List.map_append] at h2
  rw [show (r.map (tv Γ)).toList = r.toList.map (tv Γ) by cases r <;> rfl]
  exact h2
end CALLS
