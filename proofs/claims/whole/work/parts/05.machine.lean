/-! ===== a plain machine over the kit's rows: cells by number, one judgement Rn for a method's frame, one contract Cl ===== -/
def WT : List Cond := lw_tbl.filter goodWord
theorem WT_of {w : Cond} (i : Nat) (h : lw_tbl[i]? = some w) (hg : goodWord w = true) : w ∈ WT := List.mem_filter.mpr ⟨List.mem_of_getElem? h, hg⟩
theorem WT_good : GoodIn WT WT := fun w h => ⟨h, good_of_word (List.mem_filter.mp h).2⟩
abbrev PC : Type := (Nat × Nat × (Nat → Int32)) ⊕ ((Nat × (Nat → Int64)) ⊕ ((Nat × (Nat → Option Nat)) ⊕ (Nat × List Value)))
abbrev PW : Type := List PC
abbrev CT : Type := (Nat × Nat) × (va_G × (Nat → ClassId))
def aI (n : Nat) (f : Nat → Int32) : PC := .inl (0, n, f)
def aC (n : Nat) (f : Nat → Int32) : PC := .inl (1, n, f)
def aZ (n : Nat) (f : Nat → Int32) : PC := .inl (2, n, f)
def aL (n : Nat) (f : Nat → Int64) : PC := .inr (.inl (n, f))
def aG (n : Nat) (f : Nat → Option Nat) : PC := .inr (.inr (.inl (n, f)))
def oB (ci : Nat) (fs : List Value) : PC := .inr (.inr (.inr (ci, fs)))
def tv (Γ : CT) : Value → Value
  | .ref h => .ref (Γ.1.1 + h)
  | .float _ => .ref Γ.1.2
  | .int x => .int x
  | .long x => .long x
  | .null => .null
  | v => v
def tE (Γ : CT) : PC → va_E
  | .inl (t, n, f) => .inl (Γ.2.2 t, n, .inl f)
  | .inr (.inl (n, f)) => .inl (Γ.2.2 3, n, .inr (.inl f))
  | .inr (.inr (.inl (n, f))) => .inl (Γ.2.2 4, n, .inr (.inr (.inr (.inr (fun k => (f k).map (Γ.1.1 + ·))))))
  | .inr (.inr (.inr (ci, fs))) => .inr (ci, fs.map (tv Γ))
def tW (Γ : CT) (w : PW) : va_W := w.mapIdx (fun h c => (Γ.1.1 + h, tE Γ c))
theorem tW_get {Γ : CT} {w : PW} {h : Nat} {c : PC} (e : w[h]? = some c) : (tW Γ w)[h]? = some (Γ.1.1 + h, tE Γ c) := by
  unfold tW
  rw [List.getElem?_mapIdx, e]
  rfl
theorem tW_set {Γ : CT} {w : PW} {h : Nat} {c : PC} : (tW Γ w).set h (Γ.1.1 + h, tE Γ c) = tW Γ (w.set h c) := by
  unfold tW
  apply List.ext_getElem?
  intro i
  rw [List.getElem?_mapIdx, List.getElem?_set, List.getElem?_set]
  by_cases hi : h = i
  · subst hi
    simp only [if_true, List.length_mapIdx]
    by_cases hl : h < w.length
    · simp [hl]
    · simp [hl]
  · simp [hi]
theorem tW_push {Γ : CT} {w : PW} {c : PC} : tW Γ w ++ [(Γ.1.1 + w.length, tE Γ c)] = tW Γ (w ++ [c]) := by
  unfold tW
  rw [List.mapIdx_append]
  simp
theorem tW_D (Γ : CT) (w : PW) : va_D (fun q => Γ.1.1 ≤ q) (tW Γ w) := by
  have key : ∀ (k : Nat) (q : Nat × va_E), (tW Γ w)[k]? = some q → q.1 = Γ.1.1 + k := by
    intro k q h
    unfold tW at h
    rw [List.getElem?_mapIdx] at h
    cases hk : w[k]? with
    | none => rw [hk] at h; cases h
    | some c => rw [hk] at h; cases h; rfl
  refine ⟨fun i j p q hi hj e => ?_, fun k q hk => ?_⟩
  · have := key i p hi
    have := key j q hj
    omega
  · have := key k q hk
    show Γ.1.1 ≤ q.1
    omega
theorem tW_len (Γ : CT) (w : PW) : (tW Γ w).length = w.length := by unfold tW; exact List.length_mapIdx
def RG : String := "RingDraughts$Game"
def tys5 (Γ : CT) : List (ClassId × FieldType) := [(Γ.2.2 0, .int), (Γ.2.2 1, .char), (Γ.2.2 2, .boolean), (Γ.2.2 3, .long), (Γ.2.2 4, .object RG)]
def KK (Γ : CT) (U : State) : Prop := va_K Γ.2.1 vwCl (tys5 Γ) U ∧ (∀ (a : String) (i : Nat) (x : MethodName) (h : String), Cond.methodLinkNest a i x h ∈ lw_tbl → va_Nw (.methodLinkNest a i x h) U) ∧ va_AO RG U
theorem KK.warm {Γ : CT} {s U : State} (hW : s.WarmedH U.vm) (h : KK Γ s) : KK Γ U := ⟨va_K.moved hW.alike h.1, fun a i x n hm => (h.2.1 a i x n hm).warmM hW, va_AO.moved hW.alike h.2.2⟩
theorem KK.same {Γ : CT} {u U : State} (e : u.vm = U.vm) (h : KK Γ u) : KK Γ U := ⟨va_K.moved (by rw [e]; exact Vm.Alike.refl U.vm) h.1, fun a i x n hm => (h.2.1 a i x n hm).same rfl e, va_AO.moved (by rw [e]; exact Vm.Alike.refl U.vm) h.2.2⟩
def HW (Γ : CT) (w : PW) (H : Heap) : Prop := va_P Γ.2.1 vwCl (tW Γ w) H ∧ H.size = Γ.1.1 + w.length
def HX (Γ : CT) (w : PW) (s : State) (H : Heap) (locs : List Loc) : Prop := HW Γ w H ∧ va_S (fun q => Γ.1.1 ≤ q) s.heap H locs ∧ Γ.1.1 ≤ s.heap.size
/-- a method: its owner's name, code, locals, answer's type, whether it makes an object -/
abbrev MX : Type := String × ByteArray × Nat × Option FieldType × Bool
def CX (Γ : CT) (X : MX) (p : Program) (s : State) (m : MethodId) (args : Array Value) (meth : Method) (c : Code) : Prop :=
  p.tables.exec = Jvm.exec ∧ c.code = X.2.1 ∧ c.maxLocals = X.2.2.1 ∧ meth.sig.returnType = X.2.2.2.1 ∧ meth.locks = false ∧ s.vm.findClass X.1 = some m.cls ∧ (∀ w ∈ WT, w.before args s = true) ∧ KK Γ s ∧ (X.2.2.2.2 = true → meth.name = "<init>")
/-- the script, where there is one -/
def SX (Γ : CT) (sc : Option (Nat × (Nat → Int32))) (s : State) : Prop := ∀ q, sc = some q → va_X Γ.1.2 q.1 q.2 s s.heap ∧ Γ.1.2 < s.heap.size ∧ Γ.1.2 < Γ.1.1
def LV (Γ : CT) (arr : Array Slot) (n : Nat) (ls : List (Option Value)) : Prop := arr.size = n ∧ lv_wf arr ∧ ∀ (i : Nat) (v : Value), ls[i]? = some (some v) → arr[i]? = some (.val (tv Γ v))
abbrev FX : Type := CT → List Frame → Array Value → State → State → Prop
def Rn (Γ : CT) (X : MX) (R : Room) (sc : Option (Nat × (Nat → Int32))) (Fin : FX) (kc ks : Nat) (w : PW) (pc : Nat) (ls : List (Option Value)) (st : List Value) : Prop :=
  ∀ (p : Program) (l : Launch) (e : Env) (s : State) (m : MethodId) (args : Array Value) (below : List Frame) (meth : Method) (c : Code), CX Γ X p s m args meth c → SX Γ sc s → ∀ (H : Heap) (locs : List Loc) (arr : Array Slot), HX Γ w s H locs → LV Γ arr X.2.2.1 ls →
    W p l e R s m args below meth c H locs kc ks (Fin Γ below args s) (F0 m pc arr (st.map (tv Γ)))
def rmO (d mc ms : Nat) : Room := { frames := d, cells := mc, slots := ms, locals := 40 * d }
def Qc (Γ : CT) (Q : Option Value → PW → Prop) : Array Value → State → Outcome → State → Prop := fun _ st oc t =>
  ∃ (r : Option Value) (w' : PW), oc = .returned (r.map (tv Γ)) ∧ Q r w' ∧ HW Γ w' t.heap ∧ va_F (fun q => Γ.1.1 ≤ q) st t
def FinM (Q : Option Value → PW → Prop) (mc ms : Nat) : FX := fun Γ below args s => MQ below (Qc Γ Q) args s mc ms (fun q => Γ.1.1 ≤ q)
/-- the contract: with these arguments, over these cells, the method ends, with an answer and cells of which Q holds -/
def Cl (Γ : CT) (y : MethodName) (X : MX) (d mc ms : Nat) (args : List Value) (w : PW) (Q : Option Value → PW → Prop) : Prop :=
  ∀ l : Launch, Met l y (Cond.code y X.2.1 X.2.2.1 X.2.2.2.1 :: WT) (rmO d mc ms) (va_Pc (args.map (tv Γ)) (fun U => HW Γ w U.heap ∧ KK Γ U)) (Qc Γ Q) mc ms (fun q => Γ.1.1 ≤ q)
/-- the locals with which a method begins -/
def ent0 : List Value → List (Option Value)
  | [] => []
  | v :: vs => if v.category = 2 then some v :: none :: ent0 vs else some v :: ent0 vs
def ent (n : Nat) (args : List Value) : List (Option Value) := ent0 args ++ List.replicate (n - (ent0 args).length) none
theorem tv_cat (Γ : CT) (v : Value) : (tv Γ v).category = v.category := by cases v <;> rfl
theorem ent0_len (Γ : CT) : ∀ args : List Value, (lg_sl (args.map (tv Γ))).length = (ent0 args).length
  | [] => rfl
  | v :: vs => by
    have ih := ent0_len Γ vs
    by_cases h : v.category = 2
    · simp only [List.map_cons, lg_sl, List.flatMap_cons, tv_cat, h, if_true, ent0, List.length_append, List.length_cons, List.length_nil] at ih ⊢
      first | omega | (unfold lg_sl at ih; omega)
    · simp only [List.map_cons, lg_sl, List.flatMap_cons, tv_cat, h, if_false, ent0, List.length_append, List.length_cons, List.length_nil] at ih ⊢
      first | omega | (unfold lg_sl at ih; omega)
theorem ent0_args (Γ : CT) : ∀ (args : List Value) (o i : Nat) (v : Value), (ent0 args)[i]? = some (some v) → (o + i, tv Γ v) ∈ lv_args o (args.map (tv Γ))
  | [], o, i, v, h => by simp [ent0] at h
  | a :: vs, o, i, v, h => by
    by_cases hc : a.category = 2
    · simp only [ent0, hc, if_true] at h
      simp only [List.map_cons, lv_args, tv_cat, hc, if_true]
      match i, h with
      | 0, h => simp at h; subst h; simp
      | 1, h => simp at h
      | i + 2, h =>
        have h2 : (ent0 vs)[i]? = some (some v) := by simpa using h
        have := ent0_args Γ vs (o + 2) i v h2
        refine List.mem_cons_of_mem _ ?_
        rw [show o + (i + 2) = o + 2 + i by omega]
        exact this
    · simp only [ent0, hc, if_false] at h
      simp only [List.map_cons, lv_args, tv_cat, hc, if_false]
      match i, h with
      | 0, h => simp at h; subst h; simp
      | i + 1, h =>
        have h2 : (ent0 vs)[i]? = some (some v) := by simpa using h
        have := ent0_args Γ vs (o + 1) i v h2
        refine List.mem_cons_of_mem _ ?_
        rw [show o + (i + 1) = o + 1 + i by omega]
        exact this
theorem ent_LV (Γ : CT) {args : List Value} {n : Nat} (hn : (ent0 args).length ≤ n) : LV Γ ((lg_sl (args.map (tv Γ)) ++ List.replicate (n - (lg_sl (args.map (tv Γ))).length) Slot.unset).toArray) n (ent n args) := by
  have h := lv_entry (args.map (tv Γ)) (n := n) (by rw [ent0_len]; exact hn)
  refine ⟨h.1, h.2.1, fun i v hi => ?_⟩
  have h2 : (ent0 args)[i]? = some (some v) := by
    unfold ent at hi
    rw [List.getElem?_append] at hi
    split at hi
    · exact hi
    · rw [List.getElem?_replicate] at hi
      split at hi <;> simp at hi
  have := ent0_args Γ args 0 i v h2
  rw [Nat.zero_add] at this
  exact h.2.2 _ this
theorem mc_ofW {l : Launch} {y : MethodName} {ws ws' : List Cond} {rm : Room} {Pc : Array Value → State → Prop} {Qc : Array Value → State → Outcome → State → Prop} {mc ms : Nat} {free : Addr → Prop} {cc : ByteArray} {maxL : Nat} {ret : Option FieldType}
    (hy : plainFor y = true) (hw : ws = Cond.code y cc maxL ret :: ws')
    (body : ∀ p e s m args below meth c s₁, BodyLoose p l y (headSpec ws rm) cc maxL ret e s m args below meth c s₁ → c.maxLocals = maxL → Pc args s →
      W p l e (headSpec ws rm).room s m args below meth c s.heap [] 0 0 (MQ below Qc args s mc ms free) (entryFrame m args maxL)) : Met l y ws rm Pc Qc mc ms free := by
  refine MetFree.of_bodySF (code := cc) (maxLocals := maxL) (ret := ret) hy ?_ ?_
  · intro args s m h hn
    obtain ⟨meth, c, h1, h2, h3, h4, h5, h6, -, -⟩ := Cond.code_spec hn (atoms_spec (ws := ws) h _ (by rw [hw]; exact List.mem_cons_self))
    exact ⟨meth, c, h1, h2, h3, h4, h5, h6⟩
  · intro p e s m args below meth c s₁ B hml hP _
    have hh0 : s₁.heap = s.heap := by rw [B.state]; rfl
    obtain ⟨t, a1, o, b1, b2, b3⟩ := body p e s m args below meth c s₁ B hml hP s₁ hh0 (Stand.of_body B)
    exact ⟨t, o, a1, b1, b2, ⟨b3.1, b3.2⟩⟩
theorem Cl.of {Γ : CT} {y : MethodName} {X : MX} {d mc ms : Nat} {args : List Value} {w : PW} {Q : Option Value → PW → Prop} (ls : List (Option Value)) (hX : X.1 = y.cls) (hy : plainFor y = true) (hi : X.2.2.2.2 = true → y.name = "<init>") (hn : (ent0 args).length ≤ X.2.2.1) (hls : ent X.2.2.1 args = ls)
    (k : Rn Γ X (rmO d mc ms) none (FinM Q mc ms) 0 0 w 0 ls []) : Cl Γ y X d mc ms args w Q := by
  intro l
  refine mc_ofW (cc := X.2.1) (maxL := X.2.2.1) (ret := X.2.2.2.1) hy rfl ?_
  intro p e s m a below meth c s₁ B hml hv
  obtain ⟨rfl, hW, hK⟩ := hv
  have hts := atoms_spec (ws := Cond.code y X.2.1 X.2.2.1 X.2.2.2.1 :: WT) B.pre
  subst hls
  rw [lg_entry_eq]
  exact k p l e s m _ below meth c ⟨B.exec, B.bytes, hml, B.returns, B.notSynchronized, by rw [hX]; exact findClass_of_methodNamed B.named, fun w hw => hts w (List.mem_cons_of_mem _ hw), hK, fun h => ((name_of_methodNamed B.named B.method).1).trans (hi h)⟩
    (fun q h => by cases h) s.heap [] _ ⟨hW, va_S.rf, by rw [hW.2]; exact Nat.le_add_right _ _⟩ (ent_LV Γ hn)
