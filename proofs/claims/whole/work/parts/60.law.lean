/-! THE CLAIM OUT OF ONE WALK OF THE LAW'S BODY. Your part is whole_start (and what it stands on); all else here is the same for every law, but numbers. -/
def R_law : String := "RingDraughtsLaw"
def lw_P (b : Addr) (xs : List Int32) (args : Array Value) (s : State) : Prop := args = #[.ref b] ∧ s.IntsAt b xs ∧ xs.length ≤ 1536 ∧ (Jvm.Cond.and given_1 narrow_1).before args s = true
def lw_Q (_ : Array Value) (s : State) (o : Outcome) (t : State) : Prop := o = .returned (some (.int 1)) ∧ Framed s o t [] 600000 7302250
def lw_Z (below : List Frame) (a : Array Value) (s : State) : State → Prop := fun t => ∃ o, t.status = .running ∧ Ended t below o ∧ lw_Q a s o t
/-- the law's own end, with 1 on the stack, nothing written that was there before, its room as the claim has it -/
theorem lw_ret {p : Program} {l : Launch} {e : Env} {s : State} {m : MethodId} {below : List Frame} {meth : Method} {c : Code} {b : Nat} (hx : p.tables.exec = Jvm.exec) (hb : c.code = code) (hr : meth.sig.returnType = ret) (hlocks : meth.locks = false) {pc : Nat} {H : Heap} {ls : Array Slot} (hdg : decode code pc = .ok (.ireturn, 1)) : W p l e room_1 s m #[Value.ref b] below meth c H [] 600000 7302250 (lw_Z below #[Value.ref b] s) (F0 m pc ls [.int 1]) := by
  intro T hT X
  obtain ⟨fs, hret, hrun, hended, hW, hframe⟩ := X.leave (v := some (.int 1)) (hlocks := hlocks) (fun h => by rw [hr] at h; cases h)
  have hmeth' : T.vm.method? m = some meth := X.method'
  refine ⟨T.setFrames fs, ?_, .returned (some (.int 1)), hrun, hended, rfl, ⟨_, rfl⟩, hW, hframe⟩
  jvm_step X.here [X.here.top, hx, hb, hdg, hmeth', hr, ret, narrow_b1]
  (try refine ⟨rfl, ?_⟩); (try refine ⟨rfl, ?_⟩)
  first | (intro acts; rw [hret _ acts rfl rfl rfl]) | rw [hret _ _ rfl rfl rfl]
  exact Steps.refl _
/-- what holds at the law's entry: the machine, the code, the tables' words (any of lw_tbl by 'hts w (by decide +kernel)'), the script of L ints xs at the cell b, what the Statement gives of the start (any of its parts by flat_of_before) -/
def lw_At (p : Program) (s : State) (m : MethodId) (meth : Method) (c : Code) (b L : Nat) (xs : Nat → Int32) : Prop :=
  p.tables.exec = Jvm.exec ∧ c.code = code ∧ meth.sig.returnType = ret ∧ c.maxLocals = 4 ∧ s.vm.findClass R_law = some m.cls ∧ (∀ w ∈ lw_tbl, w.before #[Value.ref b] s = true) ∧ va_X b L xs s s.heap ∧ b < s.heap.size ∧ meth.locks = false ∧ (Jvm.Cond.and given_1 narrow_1).before #[Value.ref b] s = true
/-! ===== the law ===== -/
abbrev XL_law : MX := (RL, code, 4, some .boolean, false)
def FLW : FX := fun Γ below args s t => s.heap.size = Γ.1.1 → lw_Z below args s t
theorem lw_retA {p : Program} {l : Launch} {e : Env} {s : State} {m : MethodId} {below : List Frame} {meth : Method} {c : Code} {args : Array Value} (hx : p.tables.exec = Jvm.exec) (hb : c.code = code) (hr : meth.sig.returnType = ret) (hlocks : meth.locks = false) {pc : Nat} {H : Heap} {ls : Array Slot} (hdg : decode code pc = .ok (.ireturn, 1)) : W p l e room_1 s m args below meth c H [] 600000 7302250 (lw_Z below args s) (F0 m pc ls [.int 1]) := by
  intro T hT X
  obtain ⟨fs, hret, hrun, hended, hW, hframe⟩ := X.leave (v := some (.int 1)) (hlocks := hlocks) (fun h => by rw [hr] at h; cases h)
  have hmeth' : T.vm.method? m = some meth := X.method'
  refine ⟨T.setFrames fs, ?_, .returned (some (.int 1)), hrun, hended, rfl, ⟨_, rfl⟩, hW, hframe⟩
  jvm_step X.here [X.here.top, hx, hb, hdg, hmeth', hr, ret, narrow_b1]
  (try refine ⟨rfl, ?_⟩); (try refine ⟨rfl, ?_⟩)
  first | (intro acts; rw [hret _ acts rfl rfl rfl]) | rw [hret _ _ rfl rfl rfl]
  exact Steps.refl _
theorem r_law {Γ : CT} {sc : Option (Nat × (Nat → Int32))} {kc ks : Nat} {w : PW} {pc : Nat} {ls : List (Option Value)} (hd : decode code pc = .ok (.ireturn, 1)) (hc : kc ≤ 600000) (hs : ks ≤ 7302250) : Rn Γ XL_law room_1 sc FLW kc ks w pc ls [.int 1] := by
  intro p l e s m args below meth c C S H locs arr hH hL
  by_cases hz : s.heap.size = Γ.1.1
  · refine va_forget (fun q hq => ?_) (W.widen hc hs ?_)
    · rw [hz]
      exact hH.2.1.2.2 q hq
    · intro T hT X
      obtain ⟨t, a1, b1⟩ := lw_retA (args := args) C.1 C.2.1 C.2.2.2.1 C.2.2.2.2.1 hd T hT X
      exact ⟨t, a1, fun _ => b1⟩
  · intro T hT X
    exact ⟨_, Steps.refl _, fun h => absurd h hz⟩
theorem r_sld {Γ : CT} {X : MX} {R : Room} {FZ : FX} {kc ks : Nat} {w : PW} {pc : Nat} {ls : List (Option Value)} {st : List Value} {L : Nat} {xs : Nat → Int32} {i : Int32} {x : UInt32} (pc' : Nat) (hd : decode X.2.1 pc = .ok (.iaload, 1)) (hp : pc + 1 = pc') (j : Nat) (hi : i = nI j) (hj : j < L) (hn : L < 2147483648) (kk : Rn Γ X R (some (L, xs)) FZ kc ks w pc' ls (.int (xs j) :: st)) : Rn Γ X R (some (L, xs)) FZ kc ks w pc ls (.int i :: .float x :: st) := by
  subst hp
  intro p l e s m args below meth c C S H locs arr hH hL
  obtain ⟨s1, s2, s3⟩ := S _ rfl
  refine va_sld C.1 C.2.1 s1 s2 (show ¬ Γ.1.1 ≤ Γ.1.2 by omega) hH.2.1 (nI_vp hi hj hn) hd ?_
  rw [nI_cl hi hj hn]
  exact kk p l e s m args below meth c C S H locs arr hH hL
theorem r_slen {Γ : CT} {X : MX} {R : Room} {FZ : FX} {kc ks : Nat} {w : PW} {pc : Nat} {ls : List (Option Value)} {st : List Value} {L : Nat} {xs : Nat → Int32} {x : UInt32} (pc' : Nat) (hd : decode X.2.1 pc = .ok (.arraylength, 1)) (hp : pc + 1 = pc') (kk : Rn Γ X R (some (L, xs)) FZ kc ks w pc' ls (.int (nI L) :: st)) : Rn Γ X R (some (L, xs)) FZ kc ks w pc ls (.float x :: st) := by
  subst hp
  intro p l e s m args below meth c C S H locs arr hH hL
  obtain ⟨s1, s2, s3⟩ := S _ rfl
  exact va_slen C.1 C.2.1 s1 s2 (show ¬ Γ.1.1 ≤ Γ.1.2 by omega) hH.2.1 hd (kk p l e s m args below meth c C S H locs arr hH hL)
theorem sw_out22 {v : Int32} (h0 : ¬ v = 0) (h1 : ¬ v = 1) (h2 : ¬ v = 2) (h3 : ¬ v = 3) (h4 : ¬ v = 4) (h5 : ¬ v = 5) (h6 : ¬ v = 6) (h7 : ¬ v = 7) (h8 : ¬ v = 8) (h9 : ¬ v = 9) (h10 : ¬ v = 10) (h11 : ¬ v = 11) (h12 : ¬ v = 12) (h13 : ¬ v = 13) (h14 : ¬ v = 14) (h15 : ¬ v = 15) (h16 : ¬ v = 16) (h17 : ¬ v = 17) (h18 : ¬ v = 18) (h19 : ¬ v = 19) (h20 : ¬ v = 20) (h21 : ¬ v = 21) : v.toInt < 0 ∨ 21 < v.toInt := by
  have f : ∀ n : Int32, ¬ v = n → ¬ v.toInt = n.toInt := fun n h z => h (Int32.toInt_inj.mp z)
  have g0 := f 0 h0
  rw [show (0 : Int32).toInt = 0 from rfl] at g0
  have g1 := f 1 h1
  rw [show (1 : Int32).toInt = 1 from rfl] at g1
  have g2 := f 2 h2
  rw [show (2 : Int32).toInt = 2 from rfl] at g2
  have g3 := f 3 h3
  rw [show (3 : Int32).toInt = 3 from rfl] at g3
  have g4 := f 4 h4
  rw [show (4 : Int32).toInt = 4 from rfl] at g4
  have g5 := f 5 h5
  rw [show (5 : Int32).toInt = 5 from rfl] at g5
  have g6 := f 6 h6
  rw [show (6 : Int32).toInt = 6 from rfl] at g6
  have g7 := f 7 h7
  rw [show (7 : Int32).toInt = 7 from rfl] at g7
  have g8 := f 8 h8
  rw [show (8 : Int32).toInt = 8 from rfl] at g8
  have g9 := f 9 h9
  rw [show (9 : Int32).toInt = 9 from rfl] at g9
  have g10 := f 10 h10
  rw [show (10 : Int32).toInt = 10 from rfl] at g10
  have g11 := f 11 h11
  rw [show (11 : Int32).toInt = 11 from rfl] at g11
  have g12 := f 12 h12
  rw [show (12 : Int32).toInt = 12 from rfl] at g12
  have g13 := f 13 h13
  rw [show (13 : Int32).toInt = 13 from rfl] at g13
  have g14 := f 14 h14
  rw [show (14 : Int32).toInt = 14 from rfl] at g14
  have g15 := f 15 h15
  rw [show (15 : Int32).toInt = 15 from rfl] at g15
  have g16 := f 16 h16
  rw [show (16 : Int32).toInt = 16 from rfl] at g16
  have g17 := f 17 h17
  rw [show (17 : Int32).toInt = 17 from rfl] at g17
  have g18 := f 18 h18
  rw [show (18 : Int32).toInt = 18 from rfl] at g18
  have g19 := f 19 h19
  rw [show (19 : Int32).toInt = 19 from rfl] at g19
  have g20 := f 20 h20
  rw [show (20 : Int32).toInt = 20 from rfl] at g20
  have g21 := f 21 h21
  rw [show (21 : Int32).toInt = 21 from rfl] at g21
  omega
theorem LI.h0 {w : PW} (h : LI w) : w[0]? = some (oB 6 [.ref 1, .ref 8, .ref 10, .ref 11, .ref 13]) := by
  obtain ⟨X, HM, SM, pf, pn, hr, -⟩ := h
  exact hr.1.1
theorem LI.h43 {w : PW} (h : LI w) : ∃ fs, w[43]? = some (oB 7 fs) := by
  obtain ⟨X, HM, SM, pf, pn, hr, hm, -⟩ := h
  obtain ⟨⟨rm, sp, wr, pa, sl, sv, rd, k1, -⟩, -⟩ := hm
  exact ⟨_, k1⟩
theorem LI.mk0 {w1 w2 : PW} {c : PC} {F N : Nat → Int32} (hFN : bgFN false F N) (h1 : w1.length = 43 ∧ isTp w1 ∧ isGS w1 1 (GS0 F N) ∧ w1[8]? = some (oB 2 [.ref 9, .int 0]) ∧ w1[9]? = some (aG 6 (fun _ => none)) ∧ w1[10]? = some (aG 2 (fun _ => none)) ∧ w1[11]? = some (oB 4 [.ref 12, .int 0]) ∧ w1[12]? = some (aC 60 (fun _ => 0)) ∧ isSc w1) (h2 : w2.length = 59 ∧ (∀ q, q < 43 → w2[q]? = (w1 ++ [c])[q]?) ∧ isMD w2 (GS0 F N, [(F, 0, -6)]) [] (fun _ => none) (fun _ => 0) 0) : LI w2 := by
  obtain ⟨a1, a2, a3, a4, a5, a6, a7, a8, a9⟩ := h1
  obtain ⟨b1, b2, b3⟩ := h2
  have hA : ∀ q, q < 43 → w2[q]? = w1[q]? := fun q h => (b2 q h).trans (List.getElem?_append_left (by omega))
  refine ⟨(GS0 F N, [(F, 0, -6)]), [], fun _ => none, fun _ => 0, 0, ⟨a2.ag (hA 0 (by omega)) (hA 13 (by omega)) (hA 14 (by omega)) (hA 15 (by omega)), isGm.ag a3 (fun q a b => hA q (by omega)), ⟨fun _ => none, fun _ => none, (hA 8 (by omega)).trans a4, (hA 9 (by omega)).trans a5, (hA 10 (by omega)).trans a6, by decide, ⟨fun i h e => ?_, fun i G0 e => ?_, fun i j h e1 e2 => ?_⟩, fun j _ => rfl, 0, b1⟩, ⟨(hA 11 (by omega)).trans a7, (hA 12 (by omega)).trans a8, by decide, fun k => ⟨0, by decide, rfl⟩⟩, a9.ag (fun q a b => hA q (by omega))⟩, b3, GI.st (bg_ok hFN) (bg_C hFN) (bg_sd hFN) (Or.inl rfl) (fun _ _ => by decide) (by decide), fun Y h => absurd h List.not_mem_nil, fun j Y h => (by cases h)⟩
  · unfold cmb at e
    split at e <;> cases e
  · unfold hsL cmb at e
    split at e
    · simp [mapG] at e
    · cases e
  · unfold cmb at e1
    split at e1 <;> cases e1
set_option maxRecDepth 100000 in
set_option maxHeartbeats 4000000 in
theorem law_walk {Γ : CT} {L : Nat} {xs : Nat → Int32} (hL : L ≤ 1536) : Rn Γ XL_law room_1 (some (L, xs)) FLW 0 0 [] 0 [some (.float 0), none, none, none] [] := by
  have loop : ∀ (m i kc ks : Nat) (w : PW), L ≤ i + 3 * m + 2 → i ≤ 2000 → kc + 7 * m ≤ 600000 → ks + 252 * m ≤ 7302250 → LI w → Rn Γ XL_law room_1 (some (L, xs)) FLW kc ks w 18 [some (.float 0), some (.ref 0), some (.ref 43), some (.int (nI i))] [] := by
    intro m
    induction m with
    | zero =>
      intro i kc ks w hL3 hi hkc hks hI
      refine r_iload_n 19 dL_law_18 rfl rfl ?_
      refine r_aload_n 20 dL_law_19 rfl rfl rfl ?_
      refine r_slen 21 dL_law_20 rfl ?_
      refine r_iconst (v := nI 3) 22 dL_law_21 rfl (by decide) ?_
      refine r_isub 23 dL_law_22 rfl ?_
      refine r_icmp_gt 714 26 dL_law_23 (by decide) rfl (fun q23 => ?_) (fun q23 => absurd q23 (fun z => z (by rw [Int32.lt_iff_toInt_lt, pk_sub_toInt (by omega) (by decide), nI_toInt (by omega)]; omega)))
      refine r_iconst (v := 1) 715 dL_law_714 rfl (by decide) ?_
      exact r_law dL_law_715 (by omega) (by omega)
    | succ m ih =>
      intro i kc ks w hL3 hi hkc hks hI
      have h0 := hI.h0
      obtain ⟨fs43, h43⟩ := hI.h43
      have next : ∀ (w2 : PW) (kc2 ks2 : Nat), i + 3 ≤ L → kc2 ≤ kc + 7 → ks2 ≤ ks + 252 → LI w2 → Rn Γ XL_law room_1 (some (L, xs)) FLW kc2 ks2 w2 708 [some (.float 0), some (.ref 0), some (.ref 43), some (.int (nI i))] [] := by
        intro w2 kc2 ks2 h3 hk2 hs2 hI2
        refine r_iinc (ls1 := [_, _, _, _]) 711 dL_law_708 rfl (by decide) rfl rfl (show nI i + Int32.ofInt 3 = nI (i + 3) from nI_add i 3) rfl ?_
        refine r_goto 18 dL_law_711 (by decide) ?_
        exact ih (i + 3) kc2 ks2 w2 (by omega) (by omega) (by omega) (by omega) hI2
      refine r_iload_n 19 dL_law_18 rfl rfl ?_
      refine r_aload_n 20 dL_law_19 rfl rfl rfl ?_
      refine r_slen 21 dL_law_20 rfl ?_
      refine r_iconst (v := nI 3) 22 dL_law_21 rfl (by decide) ?_
      refine r_isub 23 dL_law_22 rfl ?_
      refine r_icmp_gt 714 26 dL_law_23 (by decide) rfl (fun q23 => ?_) (fun q23 => ?_)
      · refine r_iconst (v := 1) 715 dL_law_714 rfl (by decide) ?_
        exact r_law dL_law_715 (by omega) (by omega)
      · have h3 : i + 3 ≤ L := by
          have h9 := Int32.not_lt.mp q23
          rw [Int32.le_iff_toInt_le, pk_sub_toInt (by omega) (by decide), nI_toInt (by omega)] at h9
          omega
        refine r_aload_n 27 dL_law_26 rfl rfl rfl ?_
        refine r_iload_n 28 dL_law_27 rfl rfl ?_
        refine r_sld 29 dL_law_28 rfl (i) rfl (by omega) (by omega) ?_
        refine r_bipush (v := 31) 31 dL_law_29 rfl (by decide) ?_
        refine r_iand 32 dL_law_31 rfl ?_
        by_cases hs0 : (xs i &&& 31) = 0
        · rw [hs0]
          refine r_sw_in 136 dL_law_32 (by decide) (by decide) rfl (by decide) ?_
          refine r_aload_n 137 dL_law_136 rfl rfl rfl ?_
          refine r_aload_n 138 dL_law_137 rfl rfl rfl ?_
          refine r_iload_n 139 dL_law_138 rfl rfl ?_
          refine r_iconst (v := nI 1) 140 dL_law_139 rfl (by decide) ?_
          refine r_iadd 141 dL_law_140 rfl ?_
          refine r_sld 142 dL_law_141 rfl (i + 1) (nI_add i 1) (by omega) (by omega) ?_
          refine r_callV 145 dL_law_142 rfl ((pair_clock hI).a) l_L_13 mX6_clock rfl h0 rfl (by decide) (Nat.le_of_ble_eq_true rfl) (by refine ⟨?_, ?_⟩ <;> (simp only [room_1]; omega)) (qP fun w1 hw1 => ?_)
          have hb := PairQ.b _ hw1
          refine r_aload_n 146 dL_law_145 rfl rfl rfl ?_
          refine r_aload_n 147 dL_law_146 rfl rfl rfl ?_
          refine r_iload_n 148 dL_law_147 rfl rfl ?_
          refine r_iconst (v := nI 1) 149 dL_law_148 rfl (by decide) ?_
          refine r_iadd 150 dL_law_149 rfl ?_
          refine r_sld 151 dL_law_150 rfl (i + 1) (nI_add i 1) (by omega) (by omega) ?_
          refine r_callV0 154 dL_law_151 rfl (hb.2) l_L_17 mX7_clock rfl (hb.1.trans h43) rfl (by decide) (Nat.le_of_ble_eq_true rfl) (by refine ⟨?_, ?_⟩ <;> (simp only [room_1]; omega)) (qP fun w2 hw2 => ?_)
          refine r_icmp_eq 708 157 dL_law_154 (by decide) rfl (fun q154 => ?_) (fun q154 => absurd q154 (fun z => z rfl))
          exact next _ _ _ h3 (by omega) (by omega) hw2
        by_cases hs1 : (xs i &&& 31) = 1
        · rw [hs1]
          refine r_sw_in 159 dL_law_32 (by decide) (by decide) rfl (by decide) ?_
          by_cases he : xs (i + 1) = 0
          · refine r_aload_n 160 dL_law_159 rfl rfl rfl ?_
            refine r_aload_n 161 dL_law_160 rfl rfl rfl ?_
            refine r_iload_n 162 dL_law_161 rfl rfl ?_
            refine r_iconst (v := nI 1) 163 dL_law_162 rfl (by decide) ?_
            refine r_iadd 164 dL_law_163 rfl ?_
            refine r_sld 165 dL_law_164 rfl (i + 1) (nI_add i 1) (by omega) (by omega) ?_
            refine r_if_eq 172 168 dL_law_165 (by decide) rfl (fun q165 => ?_) (fun q165 => absurd q165 (fun z => z he))
            refine r_iconst (v := 0) 173 dL_law_172 rfl (by decide) ?_
            refine r_callV 176 dL_law_173 rfl ((pair_begin (e := false) hI).a) l_L_18 mX6_begin rfl h0 rfl (by decide) (Nat.le_of_ble_eq_true rfl) (by refine ⟨?_, ?_⟩ <;> (simp only [room_1]; omega)) (qP fun w1 hw1 => ?_)
            have hb := PairQ.b _ hw1
            refine r_aload_n 177 dL_law_176 rfl rfl rfl ?_
            refine r_aload_n 178 dL_law_177 rfl rfl rfl ?_
            refine r_iload_n 179 dL_law_178 rfl rfl ?_
            refine r_iconst (v := nI 1) 180 dL_law_179 rfl (by decide) ?_
            refine r_iadd 181 dL_law_180 rfl ?_
            refine r_sld 182 dL_law_181 rfl (i + 1) (nI_add i 1) (by omega) (by omega) ?_
            refine r_if_eq 189 185 dL_law_182 (by decide) rfl (fun q182 => ?_) (fun q182 => absurd q182 (fun z => z he))
            refine r_iconst (v := 0) 190 dL_law_189 rfl (by decide) ?_
            refine r_callV0 193 dL_law_190 rfl (hb.2) l_L_22 mX7_begin rfl (hb.1.trans h43) rfl (by decide) (Nat.le_of_ble_eq_true rfl) (by refine ⟨?_, ?_⟩ <;> (simp only [room_1]; omega)) (qP fun w2 hw2 => ?_)
            refine r_icmp_eq 708 196 dL_law_193 (by decide) rfl (fun q193 => ?_) (fun q193 => absurd q193 (fun z => z rfl))
            exact next _ _ _ h3 (by omega) (by omega) hw2
          · refine r_aload_n 160 dL_law_159 rfl rfl rfl ?_
            refine r_aload_n 161 dL_law_160 rfl rfl rfl ?_
            refine r_iload_n 162 dL_law_161 rfl rfl ?_
            refine r_iconst (v := nI 1) 163 dL_law_162 rfl (by decide) ?_
            refine r_iadd 164 dL_law_163 rfl ?_
            refine r_sld 165 dL_law_164 rfl (i + 1) (nI_add i 1) (by omega) (by omega) ?_
            refine r_if_eq 172 168 dL_law_165 (by decide) rfl (fun q165 => absurd q165 he) (fun q165 => ?_)
            refine r_iconst (v := 1) 169 dL_law_168 rfl (by decide) ?_
            refine r_goto 173 dL_law_169 (by decide) ?_
            refine r_callV 176 dL_law_173 rfl ((pair_begin (e := true) hI).a) l_L_18 mX6_begin rfl h0 rfl (by decide) (Nat.le_of_ble_eq_true rfl) (by refine ⟨?_, ?_⟩ <;> (simp only [room_1]; omega)) (qP fun w1 hw1 => ?_)
            have hb := PairQ.b _ hw1
            refine r_aload_n 177 dL_law_176 rfl rfl rfl ?_
            refine r_aload_n 178 dL_law_177 rfl rfl rfl ?_
            refine r_iload_n 179 dL_law_178 rfl rfl ?_
            refine r_iconst (v := nI 1) 180 dL_law_179 rfl (by decide) ?_
            refine r_iadd 181 dL_law_180 rfl ?_
            refine r_sld 182 dL_law_181 rfl (i + 1) (nI_add i 1) (by omega) (by omega) ?_
            refine r_if_eq 189 185 dL_law_182 (by decide) rfl (fun q182 => absurd q182 he) (fun q182 => ?_)
            refine r_iconst (v := 1) 186 dL_law_185 rfl (by decide) ?_
            refine r_goto 190 dL_law_186 (by decide) ?_
            refine r_callV0 193 dL_law_190 rfl (hb.2) l_L_22 mX7_begin rfl (hb.1.trans h43) rfl (by decide) (Nat.le_of_ble_eq_true rfl) (by refine ⟨?_, ?_⟩ <;> (simp only [room_1]; omega)) (qP fun w2 hw2 => ?_)
            refine r_icmp_eq 708 196 dL_law_193 (by decide) rfl (fun q193 => ?_) (fun q193 => absurd q193 (fun z => z rfl))
            exact next _ _ _ h3 (by omega) (by omega) hw2
        by_cases hs2 : (xs i &&& 31) = 2
        · rw [hs2]
          refine r_sw_in 198 dL_law_32 (by decide) (by decide) rfl (by decide) ?_
          refine r_aload_n 199 dL_law_198 rfl rfl rfl ?_
          refine r_aload_n 200 dL_law_199 rfl rfl rfl ?_
          refine r_iload_n 201 dL_law_200 rfl rfl ?_
          refine r_iconst (v := nI 1) 202 dL_law_201 rfl (by decide) ?_
          refine r_iadd 203 dL_law_202 rfl ?_
          refine r_sld 204 dL_law_203 rfl (i + 1) (nI_add i 1) (by omega) (by omega) ?_
          refine r_aload_n 205 dL_law_204 rfl rfl rfl ?_
          refine r_iload_n 206 dL_law_205 rfl rfl ?_
          refine r_iconst (v := nI 2) 207 dL_law_206 rfl (by decide) ?_
          refine r_iadd 208 dL_law_207 rfl ?_
          refine r_sld 209 dL_law_208 rfl (i + 2) (nI_add i 2) (by omega) (by omega) ?_
          refine r_callV 212 dL_law_209 rfl ((pair_set hI).a) l_L_23 mX6_set rfl h0 rfl (by decide) (Nat.le_of_ble_eq_true rfl) (by refine ⟨?_, ?_⟩ <;> (simp only [room_1]; omega)) (qP fun w1 hw1 => ?_)
          have hb := PairQ.b _ hw1
          refine r_aload_n 213 dL_law_212 rfl rfl rfl ?_
          refine r_aload_n 214 dL_law_213 rfl rfl rfl ?_
          refine r_iload_n 215 dL_law_214 rfl rfl ?_
          refine r_iconst (v := nI 1) 216 dL_law_215 rfl (by decide) ?_
          refine r_iadd 217 dL_law_216 rfl ?_
          refine r_sld 218 dL_law_217 rfl (i + 1) (nI_add i 1) (by omega) (by omega) ?_
          refine r_aload_n 219 dL_law_218 rfl rfl rfl ?_
          refine r_iload_n 220 dL_law_219 rfl rfl ?_
          refine r_iconst (v := nI 2) 221 dL_law_220 rfl (by decide) ?_
          refine r_iadd 222 dL_law_221 rfl ?_
          refine r_sld 223 dL_law_222 rfl (i + 2) (nI_add i 2) (by omega) (by omega) ?_
          refine r_callV0 226 dL_law_223 rfl (hb.2) l_L_27 mX7_set rfl (hb.1.trans h43) rfl (by decide) (Nat.le_of_ble_eq_true rfl) (by refine ⟨?_, ?_⟩ <;> (simp only [room_1]; omega)) (qP fun w2 hw2 => ?_)
          refine r_icmp_eq 708 229 dL_law_226 (by decide) rfl (fun q226 => ?_) (fun q226 => absurd q226 (fun z => z rfl))
          exact next _ _ _ h3 (by omega) (by omega) hw2
        by_cases hs3 : (xs i &&& 31) = 3
        · rw [hs3]
          refine r_sw_in 231 dL_law_32 (by decide) (by decide) rfl (by decide) ?_
          refine r_aload_n 232 dL_law_231 rfl rfl rfl ?_
          refine r_aload_n 233 dL_law_232 rfl rfl rfl ?_
          refine r_iload_n 234 dL_law_233 rfl rfl ?_
          refine r_iconst (v := nI 1) 235 dL_law_234 rfl (by decide) ?_
          refine r_iadd 236 dL_law_235 rfl ?_
          refine r_sld 237 dL_law_236 rfl (i + 1) (nI_add i 1) (by omega) (by omega) ?_
          refine r_callV 240 dL_law_237 rfl ((pair_turn hI).a) l_L_28 mX6_turn rfl h0 rfl (by decide) (Nat.le_of_ble_eq_true rfl) (by refine ⟨?_, ?_⟩ <;> (simp only [room_1]; omega)) (qP fun w1 hw1 => ?_)
          have hb := PairQ.b _ hw1
          refine r_aload_n 241 dL_law_240 rfl rfl rfl ?_
          refine r_aload_n 242 dL_law_241 rfl rfl rfl ?_
          refine r_iload_n 243 dL_law_242 rfl rfl ?_
          refine r_iconst (v := nI 1) 244 dL_law_243 rfl (by decide) ?_
          refine r_iadd 245 dL_law_244 rfl ?_
          refine r_sld 246 dL_law_245 rfl (i + 1) (nI_add i 1) (by omega) (by omega) ?_
          refine r_callV0 249 dL_law_246 rfl (hb.2) l_L_31 mX7_turn rfl (hb.1.trans h43) rfl (by decide) (Nat.le_of_ble_eq_true rfl) (by refine ⟨?_, ?_⟩ <;> (simp only [room_1]; omega)) (qP fun w2 hw2 => ?_)
          refine r_icmp_eq 708 252 dL_law_249 (by decide) rfl (fun q249 => ?_) (fun q249 => absurd q249 (fun z => z rfl))
          exact next _ _ _ h3 (by omega) (by omega) hw2
        by_cases hs4 : (xs i &&& 31) = 4
        · rw [hs4]
          refine r_sw_in 254 dL_law_32 (by decide) (by decide) rfl (by decide) ?_
          refine r_aload_n 255 dL_law_254 rfl rfl rfl ?_
          refine r_aload_n 256 dL_law_255 rfl rfl rfl ?_
          refine r_iload_n 257 dL_law_256 rfl rfl ?_
          refine r_iconst (v := nI 1) 258 dL_law_257 rfl (by decide) ?_
          refine r_iadd 259 dL_law_258 rfl ?_
          refine r_sld 260 dL_law_259 rfl (i + 1) (nI_add i 1) (by omega) (by omega) ?_
          refine r_aload_n 261 dL_law_260 rfl rfl rfl ?_
          refine r_iload_n 262 dL_law_261 rfl rfl ?_
          refine r_iconst (v := nI 2) 263 dL_law_262 rfl (by decide) ?_
          refine r_iadd 264 dL_law_263 rfl ?_
          refine r_sld 265 dL_law_264 rfl (i + 2) (nI_add i 2) (by omega) (by omega) ?_
          refine r_callV 268 dL_law_265 rfl ((pair_hop hI).a) l_L_32 mX6_hop rfl h0 rfl (by decide) (Nat.le_of_ble_eq_true rfl) (by refine ⟨?_, ?_⟩ <;> (simp only [room_1]; omega)) (qP fun w1 hw1 => ?_)
          have hb := PairQ.b _ hw1
          refine r_aload_n 269 dL_law_268 rfl rfl rfl ?_
          refine r_aload_n 270 dL_law_269 rfl rfl rfl ?_
          refine r_iload_n 271 dL_law_270 rfl rfl ?_
          refine r_iconst (v := nI 1) 272 dL_law_271 rfl (by decide) ?_
          refine r_iadd 273 dL_law_272 rfl ?_
          refine r_sld 274 dL_law_273 rfl (i + 1) (nI_add i 1) (by omega) (by omega) ?_
          refine r_aload_n 275 dL_law_274 rfl rfl rfl ?_
          refine r_iload_n 276 dL_law_275 rfl rfl ?_
          refine r_iconst (v := nI 2) 277 dL_law_276 rfl (by decide) ?_
          refine r_iadd 278 dL_law_277 rfl ?_
          refine r_sld 279 dL_law_278 rfl (i + 2) (nI_add i 2) (by omega) (by omega) ?_
          refine r_callV0 282 dL_law_279 rfl (hb.2) l_L_35 mX7_hop rfl (hb.1.trans h43) rfl (by decide) (Nat.le_of_ble_eq_true rfl) (by refine ⟨?_, ?_⟩ <;> (simp only [room_1]; omega)) (qP fun w2 hw2 => ?_)
          refine r_icmp_eq 708 285 dL_law_282 (by decide) rfl (fun q282 => ?_) (fun q282 => absurd q282 (fun z => z rfl))
          exact next _ _ _ h3 (by omega) (by omega) hw2
        by_cases hs5 : (xs i &&& 31) = 5
        · rw [hs5]
          refine r_sw_in 287 dL_law_32 (by decide) (by decide) rfl (by decide) ?_
          refine r_aload_n 288 dL_law_287 rfl rfl rfl ?_
          refine r_aload_n 289 dL_law_288 rfl rfl rfl ?_
          refine r_iload_n 290 dL_law_289 rfl rfl ?_
          refine r_iconst (v := nI 1) 291 dL_law_290 rfl (by decide) ?_
          refine r_iadd 292 dL_law_291 rfl ?_
          refine r_sld 293 dL_law_292 rfl (i + 1) (nI_add i 1) (by omega) (by omega) ?_
          refine r_aload_n 294 dL_law_293 rfl rfl rfl ?_
          refine r_iload_n 295 dL_law_294 rfl rfl ?_
          refine r_iconst (v := nI 2) 296 dL_law_295 rfl (by decide) ?_
          refine r_iadd 297 dL_law_296 rfl ?_
          refine r_sld 298 dL_law_297 rfl (i + 2) (nI_add i 2) (by omega) (by omega) ?_
          refine r_callV 301 dL_law_298 rfl ((pair_play hI).a) l_L_36 mX6_play rfl h0 rfl (by decide) (Nat.le_of_ble_eq_true rfl) (by refine ⟨?_, ?_⟩ <;> (simp only [room_1]; omega)) (qP fun w1 hw1 => ?_)
          have hb := PairQ.b _ hw1
          refine r_aload_n 302 dL_law_301 rfl rfl rfl ?_
          refine r_aload_n 303 dL_law_302 rfl rfl rfl ?_
          refine r_iload_n 304 dL_law_303 rfl rfl ?_
          refine r_iconst (v := nI 1) 305 dL_law_304 rfl (by decide) ?_
          refine r_iadd 306 dL_law_305 rfl ?_
          refine r_sld 307 dL_law_306 rfl (i + 1) (nI_add i 1) (by omega) (by omega) ?_
          refine r_aload_n 308 dL_law_307 rfl rfl rfl ?_
          refine r_iload_n 309 dL_law_308 rfl rfl ?_
          refine r_iconst (v := nI 2) 310 dL_law_309 rfl (by decide) ?_
          refine r_iadd 311 dL_law_310 rfl ?_
          refine r_sld 312 dL_law_311 rfl (i + 2) (nI_add i 2) (by omega) (by omega) ?_
          refine r_callV0 315 dL_law_312 rfl (hb.2) l_L_39 mX7_play rfl (hb.1.trans h43) rfl (by decide) (Nat.le_of_ble_eq_true rfl) (by refine ⟨?_, ?_⟩ <;> (simp only [room_1]; omega)) (qP fun w2 hw2 => ?_)
          refine r_icmp_eq 708 318 dL_law_315 (by decide) rfl (fun q315 => ?_) (fun q315 => absurd q315 (fun z => z rfl))
          exact next _ _ _ h3 (by omega) (by omega) hw2
        by_cases hs6 : (xs i &&& 31) = 6
        · rw [hs6]
          refine r_sw_in 320 dL_law_32 (by decide) (by decide) rfl (by decide) ?_
          refine r_aload_n 321 dL_law_320 rfl rfl rfl ?_
          refine r_callV 324 dL_law_321 rfl ((pair_playAll hI).a) l_L_40 mX6_playAll rfl h0 rfl (by decide) (Nat.le_of_ble_eq_true rfl) (by refine ⟨?_, ?_⟩ <;> (simp only [room_1]; omega)) (qP fun w1 hw1 => ?_)
          have hb := PairQ.b _ hw1
          refine r_aload_n 325 dL_law_324 rfl rfl rfl ?_
          refine r_callV0 328 dL_law_325 rfl (hb.2) l_L_44 mX7_playAll rfl (hb.1.trans h43) rfl (by decide) (Nat.le_of_ble_eq_true rfl) (by refine ⟨?_, ?_⟩ <;> (simp only [room_1]; omega)) (qP fun w2 hw2 => ?_)
          refine r_icmp_eq 708 331 dL_law_328 (by decide) rfl (fun q328 => ?_) (fun q328 => absurd q328 (fun z => z rfl))
          exact next _ _ _ h3 (by omega) (by omega) hw2
        by_cases hs7 : (xs i &&& 31) = 7
        · rw [hs7]
          refine r_sw_in 333 dL_law_32 (by decide) (by decide) rfl (by decide) ?_
          refine r_aload_n 334 dL_law_333 rfl rfl rfl ?_
          refine r_callV 337 dL_law_334 rfl ((pair_giveUp hI).a) l_L_45 mX6_giveUp rfl h0 rfl (by decide) (Nat.le_of_ble_eq_true rfl) (by refine ⟨?_, ?_⟩ <;> (simp only [room_1]; omega)) (qP fun w1 hw1 => ?_)
          have hb := PairQ.b _ hw1
          refine r_aload_n 338 dL_law_337 rfl rfl rfl ?_
          refine r_callV0 341 dL_law_338 rfl (hb.2) l_L_48 mX7_giveUp rfl (hb.1.trans h43) rfl (by decide) (Nat.le_of_ble_eq_true rfl) (by refine ⟨?_, ?_⟩ <;> (simp only [room_1]; omega)) (qP fun w2 hw2 => ?_)
          refine r_icmp_eq 708 344 dL_law_341 (by decide) rfl (fun q341 => ?_) (fun q341 => absurd q341 (fun z => z rfl))
          exact next _ _ _ h3 (by omega) (by omega) hw2
        by_cases hs8 : (xs i &&& 31) = 8
        · rw [hs8]
          refine r_sw_in 346 dL_law_32 (by decide) (by decide) rfl (by decide) ?_
          refine r_aload_n 347 dL_law_346 rfl rfl rfl ?_
          refine r_aload_n 348 dL_law_347 rfl rfl rfl ?_
          refine r_iload_n 349 dL_law_348 rfl rfl ?_
          refine r_iconst (v := nI 1) 350 dL_law_349 rfl (by decide) ?_
          refine r_iadd 351 dL_law_350 rfl ?_
          refine r_sld 352 dL_law_351 rfl (i + 1) (nI_add i 1) (by omega) (by omega) ?_
          refine r_aload_n 353 dL_law_352 rfl rfl rfl ?_
          refine r_iload_n 354 dL_law_353 rfl rfl ?_
          refine r_iconst (v := nI 2) 355 dL_law_354 rfl (by decide) ?_
          refine r_iadd 356 dL_law_355 rfl ?_
          refine r_sld 357 dL_law_356 rfl (i + 2) (nI_add i 2) (by omega) (by omega) ?_
          refine r_callV0 360 dL_law_357 rfl ((pair_square hI).a) l_L_49 mX6_square rfl h0 rfl (by decide) (Nat.le_of_ble_eq_true rfl) (by refine ⟨?_, ?_⟩ <;> (simp only [room_1]; omega)) (qP fun w1 hw1 => ?_)
          have hb := PairQ.b _ hw1
          refine r_aload_n 361 dL_law_360 rfl rfl rfl ?_
          refine r_aload_n 362 dL_law_361 rfl rfl rfl ?_
          refine r_iload_n 363 dL_law_362 rfl rfl ?_
          refine r_iconst (v := nI 1) 364 dL_law_363 rfl (by decide) ?_
          refine r_iadd 365 dL_law_364 rfl ?_
          refine r_sld 366 dL_law_365 rfl (i + 1) (nI_add i 1) (by omega) (by omega) ?_
          refine r_aload_n 367 dL_law_366 rfl rfl rfl ?_
          refine r_iload_n 368 dL_law_367 rfl rfl ?_
          refine r_iconst (v := nI 2) 369 dL_law_368 rfl (by decide) ?_
          refine r_iadd 370 dL_law_369 rfl ?_
          refine r_sld 371 dL_law_370 rfl (i + 2) (nI_add i 2) (by omega) (by omega) ?_
          refine r_callV0 374 dL_law_371 rfl (hb.2) l_L_52 mX7_square rfl (hb.1.trans h43) rfl (by decide) (Nat.le_of_ble_eq_true rfl) (by refine ⟨?_, ?_⟩ <;> (simp only [room_1]; omega)) (qP fun w2 hw2 => ?_)
          refine r_icmp_eq 708 377 dL_law_374 (by decide) rfl (fun q374 => ?_) (fun q374 => absurd q374 (fun z => z rfl))
          exact next _ _ _ h3 (by omega) (by omega) hw2
        by_cases hs9 : (xs i &&& 31) = 9
        · rw [hs9]
          refine r_sw_in 379 dL_law_32 (by decide) (by decide) rfl (by decide) ?_
          refine r_aload_n 380 dL_law_379 rfl rfl rfl ?_
          refine r_aload_n 381 dL_law_380 rfl rfl rfl ?_
          refine r_iload_n 382 dL_law_381 rfl rfl ?_
          refine r_iconst (v := nI 1) 383 dL_law_382 rfl (by decide) ?_
          refine r_iadd 384 dL_law_383 rfl ?_
          refine r_sld 385 dL_law_384 rfl (i + 1) (nI_add i 1) (by omega) (by omega) ?_
          refine r_aload_n 386 dL_law_385 rfl rfl rfl ?_
          refine r_iload_n 387 dL_law_386 rfl rfl ?_
          refine r_iconst (v := nI 2) 388 dL_law_387 rfl (by decide) ?_
          refine r_iadd 389 dL_law_388 rfl ?_
          refine r_sld 390 dL_law_389 rfl (i + 2) (nI_add i 2) (by omega) (by omega) ?_
          refine r_callV0 393 dL_law_390 rfl ((pair_step hI).a) l_L_53 mX6_step rfl h0 rfl (by decide) (Nat.le_of_ble_eq_true rfl) (by refine ⟨?_, ?_⟩ <;> (simp only [room_1]; omega)) (qP fun w1 hw1 => ?_)
          have hb := PairQ.b _ hw1
          refine r_aload_n 394 dL_law_393 rfl rfl rfl ?_
          refine r_aload_n 395 dL_law_394 rfl rfl rfl ?_
          refine r_iload_n 396 dL_law_395 rfl rfl ?_
          refine r_iconst (v := nI 1) 397 dL_law_396 rfl (by decide) ?_
          refine r_iadd 398 dL_law_397 rfl ?_
          refine r_sld 399 dL_law_398 rfl (i + 1) (nI_add i 1) (by omega) (by omega) ?_
          refine r_aload_n 400 dL_law_399 rfl rfl rfl ?_
          refine r_iload_n 401 dL_law_400 rfl rfl ?_
          refine r_iconst (v := nI 2) 402 dL_law_401 rfl (by decide) ?_
          refine r_iadd 403 dL_law_402 rfl ?_
          refine r_sld 404 dL_law_403 rfl (i + 2) (nI_add i 2) (by omega) (by omega) ?_
          refine r_callV0 407 dL_law_404 rfl (hb.2) l_L_56 mX7_step rfl (hb.1.trans h43) rfl (by decide) (Nat.le_of_ble_eq_true rfl) (by refine ⟨?_, ?_⟩ <;> (simp only [room_1]; omega)) (qP fun w2 hw2 => ?_)
          refine r_icmp_eq 708 410 dL_law_407 (by decide) rfl (fun q407 => ?_) (fun q407 => absurd q407 (fun z => z rfl))
          exact next _ _ _ h3 (by omega) (by omega) hw2
        by_cases hs10 : (xs i &&& 31) = 10
        · rw [hs10]
          refine r_sw_in 412 dL_law_32 (by decide) (by decide) rfl (by decide) ?_
          refine r_aload_n 413 dL_law_412 rfl rfl rfl ?_
          refine r_aload_n 414 dL_law_413 rfl rfl rfl ?_
          refine r_iload_n 415 dL_law_414 rfl rfl ?_
          refine r_iconst (v := nI 1) 416 dL_law_415 rfl (by decide) ?_
          refine r_iadd 417 dL_law_416 rfl ?_
          refine r_sld 418 dL_law_417 rfl (i + 1) (nI_add i 1) (by omega) (by omega) ?_
          refine r_aload_n 419 dL_law_418 rfl rfl rfl ?_
          refine r_iload_n 420 dL_law_419 rfl rfl ?_
          refine r_iconst (v := nI 2) 421 dL_law_420 rfl (by decide) ?_
          refine r_iadd 422 dL_law_421 rfl ?_
          refine r_sld 423 dL_law_422 rfl (i + 2) (nI_add i 2) (by omega) (by omega) ?_
          refine r_callV0 426 dL_law_423 rfl ((pair_ofHop hI).a) l_L_57 mX6_ofHop rfl h0 rfl (by decide) (Nat.le_of_ble_eq_true rfl) (by refine ⟨?_, ?_⟩ <;> (simp only [room_1]; omega)) (qP fun w1 hw1 => ?_)
          have hb := PairQ.b _ hw1
          refine r_aload_n 427 dL_law_426 rfl rfl rfl ?_
          refine r_aload_n 428 dL_law_427 rfl rfl rfl ?_
          refine r_iload_n 429 dL_law_428 rfl rfl ?_
          refine r_iconst (v := nI 1) 430 dL_law_429 rfl (by decide) ?_
          refine r_iadd 431 dL_law_430 rfl ?_
          refine r_sld 432 dL_law_431 rfl (i + 1) (nI_add i 1) (by omega) (by omega) ?_
          refine r_aload_n 433 dL_law_432 rfl rfl rfl ?_
          refine r_iload_n 434 dL_law_433 rfl rfl ?_
          refine r_iconst (v := nI 2) 435 dL_law_434 rfl (by decide) ?_
          refine r_iadd 436 dL_law_435 rfl ?_
          refine r_sld 437 dL_law_436 rfl (i + 2) (nI_add i 2) (by omega) (by omega) ?_
          refine r_callV0 440 dL_law_437 rfl (hb.2) l_L_60 mX7_ofHop rfl (hb.1.trans h43) rfl (by decide) (Nat.le_of_ble_eq_true rfl) (by refine ⟨?_, ?_⟩ <;> (simp only [room_1]; omega)) (qP fun w2 hw2 => ?_)
          refine r_icmp_eq 708 443 dL_law_440 (by decide) rfl (fun q440 => ?_) (fun q440 => absurd q440 (fun z => z rfl))
          exact next _ _ _ h3 (by omega) (by omega) hw2
        by_cases hs11 : (xs i &&& 31) = 11
        · rw [hs11]
          refine r_sw_in 445 dL_law_32 (by decide) (by decide) rfl (by decide) ?_
          refine r_aload_n 446 dL_law_445 rfl rfl rfl ?_
          refine r_aload_n 447 dL_law_446 rfl rfl rfl ?_
          refine r_iload_n 448 dL_law_447 rfl rfl ?_
          refine r_iconst (v := nI 1) 449 dL_law_448 rfl (by decide) ?_
          refine r_iadd 450 dL_law_449 rfl ?_
          refine r_sld 451 dL_law_450 rfl (i + 1) (nI_add i 1) (by omega) (by omega) ?_
          refine r_aload_n 452 dL_law_451 rfl rfl rfl ?_
          refine r_iload_n 453 dL_law_452 rfl rfl ?_
          refine r_iconst (v := nI 2) 454 dL_law_453 rfl (by decide) ?_
          refine r_iadd 455 dL_law_454 rfl ?_
          refine r_sld 456 dL_law_455 rfl (i + 2) (nI_add i 2) (by omega) (by omega) ?_
          refine r_callV0 459 dL_law_456 rfl ((pair_side hI).a) l_L_61 mX6_side rfl h0 rfl (by decide) (Nat.le_of_ble_eq_true rfl) (by refine ⟨?_, ?_⟩ <;> (simp only [room_1]; omega)) (qP fun w1 hw1 => ?_)
          have hb := PairQ.b _ hw1
          refine r_aload_n 460 dL_law_459 rfl rfl rfl ?_
          refine r_aload_n 461 dL_law_460 rfl rfl rfl ?_
          refine r_iload_n 462 dL_law_461 rfl rfl ?_
          refine r_iconst (v := nI 1) 463 dL_law_462 rfl (by decide) ?_
          refine r_iadd 464 dL_law_463 rfl ?_
          refine r_sld 465 dL_law_464 rfl (i + 1) (nI_add i 1) (by omega) (by omega) ?_
          refine r_aload_n 466 dL_law_465 rfl rfl rfl ?_
          refine r_iload_n 467 dL_law_466 rfl rfl ?_
          refine r_iconst (v := nI 2) 468 dL_law_467 rfl (by decide) ?_
          refine r_iadd 469 dL_law_468 rfl ?_
          refine r_sld 470 dL_law_469 rfl (i + 2) (nI_add i 2) (by omega) (by omega) ?_
          refine r_callV0 473 dL_law_470 rfl (hb.2) l_L_64 mX7_side rfl (hb.1.trans h43) rfl (by decide) (Nat.le_of_ble_eq_true rfl) (by refine ⟨?_, ?_⟩ <;> (simp only [room_1]; omega)) (qP fun w2 hw2 => ?_)
          refine r_icmp_eq 708 476 dL_law_473 (by decide) rfl (fun q473 => ?_) (fun q473 => absurd q473 (fun z => z rfl))
          exact next _ _ _ h3 (by omega) (by omega) hw2
        by_cases hs12 : (xs i &&& 31) = 12
        · rw [hs12]
          refine r_sw_in 478 dL_law_32 (by decide) (by decide) rfl (by decide) ?_
          refine r_aload_n 479 dL_law_478 rfl rfl rfl ?_
          refine r_aload_n 480 dL_law_479 rfl rfl rfl ?_
          refine r_iload_n 481 dL_law_480 rfl rfl ?_
          refine r_iconst (v := nI 1) 482 dL_law_481 rfl (by decide) ?_
          refine r_iadd 483 dL_law_482 rfl ?_
          refine r_sld 484 dL_law_483 rfl (i + 1) (nI_add i 1) (by omega) (by omega) ?_
          refine r_callV0 487 dL_law_484 rfl ((pair_count hI).a) l_L_65 mX6_count rfl h0 rfl (by decide) (Nat.le_of_ble_eq_true rfl) (by refine ⟨?_, ?_⟩ <;> (simp only [room_1]; omega)) (qP fun w1 hw1 => ?_)
          have hb := PairQ.b _ hw1
          refine r_aload_n 488 dL_law_487 rfl rfl rfl ?_
          refine r_aload_n 489 dL_law_488 rfl rfl rfl ?_
          refine r_iload_n 490 dL_law_489 rfl rfl ?_
          refine r_iconst (v := nI 1) 491 dL_law_490 rfl (by decide) ?_
          refine r_iadd 492 dL_law_491 rfl ?_
          refine r_sld 493 dL_law_492 rfl (i + 1) (nI_add i 1) (by omega) (by omega) ?_
          refine r_callV0 496 dL_law_493 rfl (hb.2) l_L_68 mX7_count rfl (hb.1.trans h43) rfl (by decide) (Nat.le_of_ble_eq_true rfl) (by refine ⟨?_, ?_⟩ <;> (simp only [room_1]; omega)) (qP fun w2 hw2 => ?_)
          refine r_icmp_eq 708 499 dL_law_496 (by decide) rfl (fun q496 => ?_) (fun q496 => absurd q496 (fun z => z rfl))
          exact next _ _ _ h3 (by omega) (by omega) hw2
        by_cases hs13 : (xs i &&& 31) = 13
        · rw [hs13]
          refine r_sw_in 501 dL_law_32 (by decide) (by decide) rfl (by decide) ?_
          refine r_aload_n 502 dL_law_501 rfl rfl rfl ?_
          refine r_aload_n 503 dL_law_502 rfl rfl rfl ?_
          refine r_iload_n 504 dL_law_503 rfl rfl ?_
          refine r_iconst (v := nI 1) 505 dL_law_504 rfl (by decide) ?_
          refine r_iadd 506 dL_law_505 rfl ?_
          refine r_sld 507 dL_law_506 rfl (i + 1) (nI_add i 1) (by omega) (by omega) ?_
          refine r_callV0 510 dL_law_507 rfl ((pair_rows hI).a) l_L_69 mX6_rows rfl h0 rfl (by decide) (Nat.le_of_ble_eq_true rfl) (by refine ⟨?_, ?_⟩ <;> (simp only [room_1]; omega)) (qP fun w1 hw1 => ?_)
          have hb := PairQ.b _ hw1
          refine r_aload_n 511 dL_law_510 rfl rfl rfl ?_
          refine r_aload_n 512 dL_law_511 rfl rfl rfl ?_
          refine r_iload_n 513 dL_law_512 rfl rfl ?_
          refine r_iconst (v := nI 1) 514 dL_law_513 rfl (by decide) ?_
          refine r_iadd 515 dL_law_514 rfl ?_
          refine r_sld 516 dL_law_515 rfl (i + 1) (nI_add i 1) (by omega) (by omega) ?_
          refine r_callV0 519 dL_law_516 rfl (hb.2) l_L_72 mX7_rows rfl (hb.1.trans h43) rfl (by decide) (Nat.le_of_ble_eq_true rfl) (by refine ⟨?_, ?_⟩ <;> (simp only [room_1]; omega)) (qP fun w2 hw2 => ?_)
          refine r_icmp_eq 708 522 dL_law_519 (by decide) rfl (fun q519 => ?_) (fun q519 => absurd q519 (fun z => z rfl))
          exact next _ _ _ h3 (by omega) (by omega) hw2
        by_cases hs14 : (xs i &&& 31) = 14
        · rw [hs14]
          refine r_sw_in 524 dL_law_32 (by decide) (by decide) rfl (by decide) ?_
          refine r_aload_n 525 dL_law_524 rfl rfl rfl ?_
          refine r_aload_n 526 dL_law_525 rfl rfl rfl ?_
          refine r_iload_n 527 dL_law_526 rfl rfl ?_
          refine r_iconst (v := nI 1) 528 dL_law_527 rfl (by decide) ?_
          refine r_iadd 529 dL_law_528 rfl ?_
          refine r_sld 530 dL_law_529 rfl (i + 1) (nI_add i 1) (by omega) (by omega) ?_
          refine r_callV0 533 dL_law_530 rfl ((pair_worth hI).a) l_L_73 mX6_worth rfl h0 rfl (by decide) (Nat.le_of_ble_eq_true rfl) (by refine ⟨?_, ?_⟩ <;> (simp only [room_1]; omega)) (qP fun w1 hw1 => ?_)
          have hb := PairQ.b _ hw1
          refine r_aload_n 534 dL_law_533 rfl rfl rfl ?_
          refine r_aload_n 535 dL_law_534 rfl rfl rfl ?_
          refine r_iload_n 536 dL_law_535 rfl rfl ?_
          refine r_iconst (v := nI 1) 537 dL_law_536 rfl (by decide) ?_
          refine r_iadd 538 dL_law_537 rfl ?_
          refine r_sld 539 dL_law_538 rfl (i + 1) (nI_add i 1) (by omega) (by omega) ?_
          refine r_callV0 542 dL_law_539 rfl (hb.2) l_L_76 mX7_worth rfl (hb.1.trans h43) rfl (by decide) (Nat.le_of_ble_eq_true rfl) (by refine ⟨?_, ?_⟩ <;> (simp only [room_1]; omega)) (qP fun w2 hw2 => ?_)
          refine r_icmp_eq 708 545 dL_law_542 (by decide) rfl (fun q542 => ?_) (fun q542 => absurd q542 (fun z => z rfl))
          exact next _ _ _ h3 (by omega) (by omega) hw2
        by_cases hs15 : (xs i &&& 31) = 15
        · rw [hs15]
          refine r_sw_in 547 dL_law_32 (by decide) (by decide) rfl (by decide) ?_
          refine r_aload_n 548 dL_law_547 rfl rfl rfl ?_
          refine r_aload_n 549 dL_law_548 rfl rfl rfl ?_
          refine r_iload_n 550 dL_law_549 rfl rfl ?_
          refine r_iconst (v := nI 1) 551 dL_law_550 rfl (by decide) ?_
          refine r_iadd 552 dL_law_551 rfl ?_
          refine r_sld 553 dL_law_552 rfl (i + 1) (nI_add i 1) (by omega) (by omega) ?_
          refine r_callV0 556 dL_law_553 rfl ((pair_best hI).a) l_L_77 mX6_best rfl h0 rfl (by decide) (Nat.le_of_ble_eq_true rfl) (by refine ⟨?_, ?_⟩ <;> (simp only [room_1]; omega)) (qP fun w1 hw1 => ?_)
          have hb := PairQ.b _ hw1
          refine r_aload_n 557 dL_law_556 rfl rfl rfl ?_
          refine r_aload_n 558 dL_law_557 rfl rfl rfl ?_
          refine r_iload_n 559 dL_law_558 rfl rfl ?_
          refine r_iconst (v := nI 1) 560 dL_law_559 rfl (by decide) ?_
          refine r_iadd 561 dL_law_560 rfl ?_
          refine r_sld 562 dL_law_561 rfl (i + 1) (nI_add i 1) (by omega) (by omega) ?_
          refine r_callV0 565 dL_law_562 rfl (hb.2) l_L_80 mX7_best rfl (hb.1.trans h43) rfl (by decide) (Nat.le_of_ble_eq_true rfl) (by refine ⟨?_, ?_⟩ <;> (simp only [room_1]; omega)) (qP fun w2 hw2 => ?_)
          refine r_icmp_eq 708 568 dL_law_565 (by decide) rfl (fun q565 => ?_) (fun q565 => absurd q565 (fun z => z rfl))
          exact next _ _ _ h3 (by omega) (by omega) hw2
        by_cases hs16 : (xs i &&& 31) = 16
        · rw [hs16]
          refine r_sw_in 570 dL_law_32 (by decide) (by decide) rfl (by decide) ?_
          refine r_aload_n 571 dL_law_570 rfl rfl rfl ?_
          refine r_aload_n 572 dL_law_571 rfl rfl rfl ?_
          refine r_iload_n 573 dL_law_572 rfl rfl ?_
          refine r_iconst (v := nI 1) 574 dL_law_573 rfl (by decide) ?_
          refine r_iadd 575 dL_law_574 rfl ?_
          refine r_sld 576 dL_law_575 rfl (i + 1) (nI_add i 1) (by omega) (by omega) ?_
          refine r_i2l 577 dL_law_576 rfl rfl ?_
          refine r_bipush (v := 32) 579 dL_law_577 rfl (by decide) ?_
          refine r_lshl 580 dL_law_579 rfl rfl ?_
          refine r_aload_n 581 dL_law_580 rfl rfl rfl ?_
          refine r_iload_n 582 dL_law_581 rfl rfl ?_
          refine r_iconst (v := nI 2) 583 dL_law_582 rfl (by decide) ?_
          refine r_iadd 584 dL_law_583 rfl ?_
          refine r_sld 585 dL_law_584 rfl (i + 2) (nI_add i 2) (by omega) (by omega) ?_
          refine r_i2l 586 dL_law_585 rfl rfl ?_
          refine r_ldc2 589 dL_law_586 rfl k_L_81 ?_
          refine r_land 590 dL_law_589 rfl ?_
          refine r_lor 591 dL_law_590 rfl ?_
          refine r_callV0 594 dL_law_591 rfl ((pair_put hI).a) l_L_83 mX6_put rfl h0 rfl (by decide) (Nat.le_of_ble_eq_true rfl) (by refine ⟨?_, ?_⟩ <;> (simp only [room_1]; omega)) (qP fun w1 hw1 => ?_)
          have hb := PairQ.b _ hw1
          refine r_aload_n 595 dL_law_594 rfl rfl rfl ?_
          refine r_aload_n 596 dL_law_595 rfl rfl rfl ?_
          refine r_iload_n 597 dL_law_596 rfl rfl ?_
          refine r_iconst (v := nI 1) 598 dL_law_597 rfl (by decide) ?_
          refine r_iadd 599 dL_law_598 rfl ?_
          refine r_sld 600 dL_law_599 rfl (i + 1) (nI_add i 1) (by omega) (by omega) ?_
          refine r_i2l 601 dL_law_600 rfl rfl ?_
          refine r_bipush (v := 32) 603 dL_law_601 rfl (by decide) ?_
          refine r_lshl 604 dL_law_603 rfl rfl ?_
          refine r_aload_n 605 dL_law_604 rfl rfl rfl ?_
          refine r_iload_n 606 dL_law_605 rfl rfl ?_
          refine r_iconst (v := nI 2) 607 dL_law_606 rfl (by decide) ?_
          refine r_iadd 608 dL_law_607 rfl ?_
          refine r_sld 609 dL_law_608 rfl (i + 2) (nI_add i 2) (by omega) (by omega) ?_
          refine r_i2l 610 dL_law_609 rfl rfl ?_
          refine r_ldc2 613 dL_law_610 rfl k_L_81 ?_
          refine r_land 614 dL_law_613 rfl ?_
          refine r_lor 615 dL_law_614 rfl ?_
          refine r_callV0 618 dL_law_615 rfl (hb.2) l_L_87 mX7_put rfl (hb.1.trans h43) rfl (by decide) (Nat.le_of_ble_eq_true rfl) (by refine ⟨?_, ?_⟩ <;> (simp only [room_1]; omega)) (qP fun w2 hw2 => ?_)
          refine r_icmp_eq 708 621 dL_law_618 (by decide) rfl (fun q618 => ?_) (fun q618 => absurd q618 (fun z => z rfl))
          exact next _ _ _ h3 (by omega) (by omega) hw2
        by_cases hs17 : (xs i &&& 31) = 17
        · rw [hs17]
          refine r_sw_in 623 dL_law_32 (by decide) (by decide) rfl (by decide) ?_
          refine r_aload_n 624 dL_law_623 rfl rfl rfl ?_
          refine r_callV0 627 dL_law_624 rfl ((pair_wipe hI).a) l_L_88 mX6_wipe rfl h0 rfl (by decide) (Nat.le_of_ble_eq_true rfl) (by refine ⟨?_, ?_⟩ <;> (simp only [room_1]; omega)) (qP fun w1 hw1 => ?_)
          have hb := PairQ.b _ hw1
          refine r_aload_n 628 dL_law_627 rfl rfl rfl ?_
          refine r_callV0 631 dL_law_628 rfl (hb.2) l_L_91 mX7_wipe rfl (hb.1.trans h43) rfl (by decide) (Nat.le_of_ble_eq_true rfl) (by refine ⟨?_, ?_⟩ <;> (simp only [room_1]; omega)) (qP fun w2 hw2 => ?_)
          refine r_icmp_eq 708 634 dL_law_631 (by decide) rfl (fun q631 => ?_) (fun q631 => absurd q631 (fun z => z rfl))
          exact next _ _ _ h3 (by omega) (by omega) hw2
        by_cases hs18 : (xs i &&& 31) = 18
        · rw [hs18]
          refine r_sw_in 636 dL_law_32 (by decide) (by decide) rfl (by decide) ?_
          refine r_aload_n 637 dL_law_636 rfl rfl rfl ?_
          refine r_callV0 640 dL_law_637 rfl ((pair_fault hI).a) l_L_92 mX6_fault rfl h0 rfl (by decide) (Nat.le_of_ble_eq_true rfl) (by refine ⟨?_, ?_⟩ <;> (simp only [room_1]; omega)) (qP fun w1 hw1 => ?_)
          have hb := PairQ.b _ hw1
          refine r_aload_n 641 dL_law_640 rfl rfl rfl ?_
          refine r_callV0 644 dL_law_641 rfl (hb.2) l_L_95 mX7_fault rfl (hb.1.trans h43) rfl (by decide) (Nat.le_of_ble_eq_true rfl) (by refine ⟨?_, ?_⟩ <;> (simp only [room_1]; omega)) (qP fun w2 hw2 => ?_)
          refine r_icmp_eq 708 647 dL_law_644 (by decide) rfl (fun q644 => ?_) (fun q644 => absurd q644 (fun z => z rfl))
          exact next _ _ _ h3 (by omega) (by omega) hw2
        by_cases hs19 : (xs i &&& 31) = 19
        · rw [hs19]
          refine r_sw_in 649 dL_law_32 (by decide) (by decide) rfl (by decide) ?_
          refine r_aload_n 650 dL_law_649 rfl rfl rfl ?_
          refine r_callV0 653 dL_law_650 rfl ((pair_undo hI).a) l_L_96 mX6_undo rfl h0 rfl (by decide) (Nat.le_of_ble_eq_true rfl) (by refine ⟨?_, ?_⟩ <;> (simp only [room_1]; omega)) (qP fun w1 hw1 => ?_)
          have hb := PairQ.b _ hw1
          refine r_aload_n 654 dL_law_653 rfl rfl rfl ?_
          refine r_callV0 657 dL_law_654 rfl (hb.2) l_L_99 mX7_undo rfl (hb.1.trans h43) rfl (by decide) (Nat.le_of_ble_eq_true rfl) (by refine ⟨?_, ?_⟩ <;> (simp only [room_1]; omega)) (qP fun w2 hw2 => ?_)
          refine r_icmp_eq 708 660 dL_law_657 (by decide) rfl (fun q657 => ?_) (fun q657 => absurd q657 (fun z => z rfl))
          exact next _ _ _ h3 (by omega) (by omega) hw2
        by_cases hs20 : (xs i &&& 31) = 20
        · rw [hs20]
          refine r_sw_in 662 dL_law_32 (by decide) (by decide) rfl (by decide) ?_
          refine r_aload_n 663 dL_law_662 rfl rfl rfl ?_
          refine r_aload_n 664 dL_law_663 rfl rfl rfl ?_
          refine r_iload_n 665 dL_law_664 rfl rfl ?_
          refine r_iconst (v := nI 1) 666 dL_law_665 rfl (by decide) ?_
          refine r_iadd 667 dL_law_666 rfl ?_
          refine r_sld 668 dL_law_667 rfl (i + 1) (nI_add i 1) (by omega) (by omega) ?_
          refine r_callV 671 dL_law_668 rfl ((pair_save hI).a) l_L_100 mX6_save rfl h0 rfl (by decide) (Nat.le_of_ble_eq_true rfl) (by refine ⟨?_, ?_⟩ <;> (simp only [room_1]; omega)) (qP fun w1 hw1 => ?_)
          have hb := PairQ.b _ hw1
          refine r_aload_n 672 dL_law_671 rfl rfl rfl ?_
          refine r_aload_n 673 dL_law_672 rfl rfl rfl ?_
          refine r_iload_n 674 dL_law_673 rfl rfl ?_
          refine r_iconst (v := nI 1) 675 dL_law_674 rfl (by decide) ?_
          refine r_iadd 676 dL_law_675 rfl ?_
          refine r_sld 677 dL_law_676 rfl (i + 1) (nI_add i 1) (by omega) (by omega) ?_
          refine r_callV0 680 dL_law_677 rfl (hb.2) l_L_103 mX7_save rfl (hb.1.trans h43) rfl (by decide) (Nat.le_of_ble_eq_true rfl) (by refine ⟨?_, ?_⟩ <;> (simp only [room_1]; omega)) (qP fun w2 hw2 => ?_)
          refine r_icmp_eq 708 683 dL_law_680 (by decide) rfl (fun q680 => ?_) (fun q680 => absurd q680 (fun z => z rfl))
          exact next _ _ _ h3 (by omega) (by omega) hw2
        by_cases hs21 : (xs i &&& 31) = 21
        · rw [hs21]
          refine r_sw_in 685 dL_law_32 (by decide) (by decide) rfl (by decide) ?_
          refine r_aload_n 686 dL_law_685 rfl rfl rfl ?_
          refine r_aload_n 687 dL_law_686 rfl rfl rfl ?_
          refine r_iload_n 688 dL_law_687 rfl rfl ?_
          refine r_iconst (v := nI 1) 689 dL_law_688 rfl (by decide) ?_
          refine r_iadd 690 dL_law_689 rfl ?_
          refine r_sld 691 dL_law_690 rfl (i + 1) (nI_add i 1) (by omega) (by omega) ?_
          refine r_callV 694 dL_law_691 rfl ((pair_restore hI).a) l_L_104 mX6_restore rfl h0 rfl (by decide) (Nat.le_of_ble_eq_true rfl) (by refine ⟨?_, ?_⟩ <;> (simp only [room_1]; omega)) (qP fun w1 hw1 => ?_)
          have hb := PairQ.b _ hw1
          refine r_aload_n 695 dL_law_694 rfl rfl rfl ?_
          refine r_aload_n 696 dL_law_695 rfl rfl rfl ?_
          refine r_iload_n 697 dL_law_696 rfl rfl ?_
          refine r_iconst (v := nI 1) 698 dL_law_697 rfl (by decide) ?_
          refine r_iadd 699 dL_law_698 rfl ?_
          refine r_sld 700 dL_law_699 rfl (i + 1) (nI_add i 1) (by omega) (by omega) ?_
          refine r_callV0 703 dL_law_700 rfl (hb.2) l_L_107 mX7_restore rfl (hb.1.trans h43) rfl (by decide) (Nat.le_of_ble_eq_true rfl) (by refine ⟨?_, ?_⟩ <;> (simp only [room_1]; omega)) (qP fun w2 hw2 => ?_)
          refine r_icmp_eq 708 706 dL_law_703 (by decide) rfl (fun q703 => ?_) (fun q703 => absurd q703 (fun z => z rfl))
          exact next _ _ _ h3 (by omega) (by omega) hw2
        have hso : (xs i &&& 31).toInt < 0 ∨ 21 < (xs i &&& 31).toInt := sw_out22 hs0 hs1 hs2 hs3 hs4 hs5 hs6 hs7 hs8 hs9 hs10 hs11 hs12 hs13 hs14 hs15 hs16 hs17 hs18 hs19 hs20 hs21
        refine r_sw_out 708 dL_law_32 hso (by decide) ?_
        exact next _ _ _ h3 (by omega) (by omega) hI
  obtain ⟨F, N, hFN⟩ := bg_ex false
  refine r_new 3 dL_law_0 rfl n_L_7 rfl (by decide) (by decide) ?_
  refine r_hd 0 rfl ?_
  refine r_dup 4 dL_law_3 rfl rfl ?_
  refine r_callI (ci := 0) (fs := []) 7 dL_law_4 rfl (tX6_init rfl rfl hFN) l_L_9 mX6_init rfl rfl (by decide) (Nat.le_of_ble_eq_true rfl) (by decide) (qN fun w1 h1 => ?_)
  refine r_astore_n (ls1 := [_, _, _, _]) 8 dL_law_7 rfl (by decide) rfl rfl rfl ?_
  refine r_new 11 dL_law_8 rfl n_L_10 rfl (by decide) (by decide) ?_
  refine r_hd 43 (by first | exact h1.1 | rfl) ?_
  refine r_dup 12 dL_law_11 rfl rfl ?_
  refine r_callI (ci := 0) (fs := []) 15 dL_law_12 rfl (tX7_init (ga_n h1.1) (by rw [List.length_append, h1.1]; rfl) hFN) l_L_12 mX7_init rfl rfl (by decide) (Nat.le_of_ble_eq_true rfl) (by decide) (qN fun w2 h2 => ?_)
  refine r_astore_n (ls1 := [_, _, _, _]) 16 dL_law_15 rfl (by decide) rfl rfl rfl ?_
  refine r_iconst (v := nI 0) 17 dL_law_16 rfl (by decide) ?_
  refine r_istore_n (ls1 := [_, _, _, _]) 18 dL_law_17 rfl (by decide) rfl rfl ?_
  exact loop 512 0 _ _ w2 (by omega) (by omega) (by decide) (by decide) (LI.mk0 hFN h1 h2)
theorem kN_q {own : String} {idx ci n : Nat} {fs : List Value} (h : kN own idx ci n fs) {q : vw_C} (hq : vwCl[ci]? = some q) : (∀ w ∈ u_ws q.1 q.2.1 q.2.2, w ∈ WT) ∧ Cond.instantiable q.1 q.2.2 ∈ WT := by
  obtain ⟨q', ty0, hK, -, -, hi, -⟩ := h
  cases hK.1.symm.trans hq
  exact ⟨hK.2.1, hi⟩
theorem kn_all {q : vw_C} : ∀ c : Nat, vwCl[c]? = some q → (∀ w ∈ u_ws q.1 q.2.1 q.2.2, w ∈ WT) ∧ Cond.instantiable q.1 q.2.2 ∈ WT
  | 0, h => kN_q n_X1_9 h
  | 1, h => kN_q n_X6_7 h
  | 2, h => kN_q n_X6_16 h
  | 3, h => kN_q n_X5_16 h
  | 4, h => kN_q n_X6_27 h
  | 5, h => kN_q n_X6_34 h
  | 6, h => kN_q n_L_7 h
  | 7, h => kN_q n_L_10 h
  | n + 8, h => by simp [vwCl] at h
theorem arr_at {s : State} {args : Array Value} {ty : FieldType} (h : (Cond.arrayClass ty).before args s = true) : ∃ cA : ClassId, ArrOfT s cA ty ∧ s.vm.findClass ("[" ++ ty.toString) = some cA := by
  obtain ⟨c, k, comp, h1, h2, h3⟩ := Cond.arrayClass_spec h
  exact ⟨c, fun n z => ⟨fun k h => (by cases h), k, h2, comp, h3⟩, h1⟩
theorem arr_ob {s : State} {args : Array Value} {C : String} (h : (Cond.arrayOver (.object C)).before args s = true) : ∃ cA : ClassId, ArrOfT s cA (.object C) ∧ va_RA s cA (.object C) := by
  obtain ⟨comp, c, k, h1, h2, h3, h4, h5⟩ := Cond.arrayOver_spec h
  exact ⟨c, fun n z => ⟨fun k h => (by cases h), k, h3, comp, h4⟩, k, comp, h3, h4, h1, h5⟩
theorem tys_ok {Γ : CT} {s : State} (h0 : ArrOfT s (Γ.2.2 0) .int ∧ va_RA s (Γ.2.2 0) .int) (h1 : ArrOfT s (Γ.2.2 1) .char ∧ va_RA s (Γ.2.2 1) .char) (h2 : ArrOfT s (Γ.2.2 2) .boolean ∧ va_RA s (Γ.2.2 2) .boolean) (h3 : ArrOfT s (Γ.2.2 3) .long ∧ va_RA s (Γ.2.2 3) .long) (h4 : ArrOfT s (Γ.2.2 4) (.object RG) ∧ va_RA s (Γ.2.2 4) (.object RG)) : ∀ (k : Nat) (q : ClassId × FieldType), (tys5 Γ)[k]? = some q → ArrOfT s q.1 q.2 ∧ va_RA s q.1 q.2
  | 0, q, hq => by cases hq; exact h0
  | 1, q, hq => by cases hq; exact h1
  | 2, q, hq => by cases hq; exact h2
  | 3, q, hq => by cases hq; exact h3
  | 4, q, hq => by cases hq; exact h4
  | n + 5, q, hq => by simp [tys5] at hq
/-- YOUR PART: from the entry, for every script of at most 1536 ints, the law comes to its end with true ('hflags': the launch's flags, for a law that throws: no stack traces) -/
theorem whole_start {p : Program} {e : Env} {s : State} {m : MethodId} {below : List Frame} {meth : Method} {c : Code} (l : Launch) (hflags : l.flags = flags0) {b L : Nat} {xs : Nat → Int32} (hL : L ≤ 1536) (C0 : lw_At p s m meth c b L xs) : W p l e room_1 s m #[Value.ref b] below meth c s.heap [] 0 0 (lw_Z below #[Value.ref b] s) (entryFrame m ([Value.ref b] : List Value).toArray 4) := by
  obtain ⟨hx, hb, hr, hml, hown, hts, hX, hbl, hlocks, hgv⟩ := C0
  have htw : ∀ w ∈ WT, w.before #[Value.ref b] s = true := fun w hw => hts w (List.mem_filter.mp hw).1
  have hcl : ∀ c0 : Nat, ∃ d : ClassId × (Nat → Nat), ∀ q, vwCl[c0]? = some q → u_Kn s q.1 q.2.1 q.2.2 d.1 d.2 := by
    intro c0
    cases hq : vwCl[c0]? with
    | none => exact ⟨(0, fun _ => 0), fun q h => by cases h⟩
    | some q0 =>
      obtain ⟨k1, k2⟩ := kn_all c0 hq
      obtain ⟨cC, iS, hk⟩ := u_known htw k1 (htw _ k2)
      exact ⟨(cC, iS), fun q h => by cases h; exact hk⟩
  obtain ⟨c0, a0, b0⟩ := arr_at (htw _ w_ar_int)
  obtain ⟨c1, a1, b1⟩ := arr_at (htw _ w_ar_char)
  obtain ⟨c2, a2, b2⟩ := arr_at (htw _ w_ar_boolean)
  obtain ⟨c3, a3, b3⟩ := arr_at (htw _ w_ar_long)
  have hov : (Cond.arrayOver (.object RG)).before #[Value.ref b] s = true := hts _ (List.mem_of_getElem? (i := 152) (by decide +kernel))
  obtain ⟨c4, a4, b4⟩ := arr_ob hov
  let D : va_G := (fun k => (Classical.choose (hcl k)).1, fun k => (Classical.choose (hcl k)).2)
  let ids : Nat → ClassId := fun k => match k with | 0 => c0 | 1 => c1 | 2 => c2 | 3 => c3 | _ => c4
  let Γ : CT := ((s.heap.size, b), (D, ids))
  have hK : va_K D vwCl (tys5 Γ) s := by
    exact ⟨fun k q hq => Classical.choose_spec (hcl k) q hq, tys_ok (Γ := Γ) ⟨a0, b0⟩ ⟨a1, b1⟩ ⟨a2, b2⟩ ⟨a3, b3⟩ ⟨a4, b4⟩⟩
  have hKK : KK Γ s := ⟨hK, fun a i x n hm => hts _ hm, hov⟩
  rw [lg_entry_eq]
  have hent := lv_entry ([Value.ref b]) (n := 4) (by simp [lg_sl, Value.category])
  have key := law_walk (Γ := Γ) (xs := xs) hL p l e s m #[Value.ref b] below meth c ⟨hx, hb, hml, hr, hlocks, hown, htw, hKK, fun h => by cases h⟩
    (fun q hq => by cases hq; exact ⟨hX, hbl, hbl⟩) s.heap [] _ ⟨⟨fun k q hq => by simp [tW] at hq, rfl⟩, va_S.rf, Nat.le_refl _⟩ ⟨hent.1, hent.2.1, fun i v hi => ?_⟩
  · intro T hT X
    obtain ⟨t, h1, h2⟩ := key T hT X
    exact ⟨t, h1, h2 rfl⟩
  · match i, hi with
    | 0, hi =>
      cases hi
      exact hent.2.2 (0, Value.ref b) (by simp [lv_args])
    | 1, hi => simp at hi
    | 2, hi => simp at hi
    | 3, hi => simp at hi
    | n + 4, hi => simp at hi
