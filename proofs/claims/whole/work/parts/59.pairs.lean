/-! ===== class and model side by side ===== -/
def mapG (HM : List MG) : List GS := HM.map (·.1)
def mapS (SM : Nat → Option MG) : Nat → Option GS := fun j => (SM j).map (·.1)
theorem isRD.fm {w w1 : PW} {G : GS} {H : List GS} {S : Nat → Option GS} {pf : Nat → Int32} {pn : Nat} (k : isRD w G H S pf pn) (hF : Fr w w1 mS) : isRD w1 G H S pf pn := by
  obtain ⟨k1, k2, k3, k4, k5⟩ := k
  have hA : ∀ q, q < 43 → w1[q]? = w[q]? := fun q h => hF.2 q (by unfold mS; omega)
  exact ⟨k1.ag (hA 0 (by omega)) (hA 13 (by omega)) (hA 14 (by omega)) (hA 15 (by omega)), isGm.ag k2 (fun q a b => hA q (by omega)), k3.fr hF (fun q h => by unfold mS at h; omega), k4.fr hF (by unfold mS; omega) (by unfold mS; omega), k5.ag (fun q a b => hA q (by omega))⟩
theorem isMD.fm {w w1 : PW} {X : MG} {HM : List MG} {SM : Nat → Option MG} {pf : Nat → Int32} {pn : Nat} (h : isMD w X HM SM pf pn) (hM : FrM w w1) : isMD w1 X HM SM pf pn := by
  obtain ⟨⟨rm, sp, wr, pa, sl, sv, rd, k1, k2, k3, k4, k5, k6, k7, k8, k9, k10⟩, ⟨z, h1, h2⟩, W, h49, h50, h51, h52, h53, h54, h55, h56, h57⟩ := h
  have hA : ∀ {q c}, 43 ≤ q → q < 59 → w[q]? = some c → w1[q]? = some c := fun {q c} a b e => (hM q a b).trans e
  exact ⟨⟨rm, sp, wr, pa, sl, sv, rd, hA (by omega) (by omega) k1, hA (by omega) (by omega) k2, k3, k4, hA (by omega) (by omega) k5, hA (by omega) (by omega) k6, k7, hA (by omega) (by omega) k8, k9, hA (by omega) (by omega) k10⟩, ⟨z, hA (by omega) (by omega) h1, h2⟩, W, hA (by omega) (by omega) h49, hA (by omega) (by omega) h50, hA (by omega) (by omega) h51, hA (by omega) (by omega) h52, hA (by omega) (by omega) h53, hA (by omega) (by omega) h54, hA (by omega) (by omega) h55, hA (by omega) (by omega) h56, hA (by omega) (by omega) h57⟩
/-- class and model are in the same state -/
def LI (w : PW) : Prop := ∃ (X : MG) (HM : List MG) (SM : Nat → Option MG) (pf : Nat → Int32) (pn : Nat), isRD w X.1 (mapG HM) (mapS SM) pf pn ∧ isMD w X HM SM pf pn ∧ GI X ∧ (∀ Y ∈ HM, GI Y) ∧ ∀ j Y, SM j = some Y → GI Y
theorem keep_map {HM : List MG} {X : MG} : keepL (mapG HM) X.1 = mapG (keepM HM X) := by
  unfold keepL keepM mapG
  rw [List.map_append, List.length_map]
  split
  · rw [List.map_drop]; rfl
  · rfl
theorem keep_GI {HM : List MG} {X : MG} (hH : ∀ Y ∈ HM, GI Y) (hI : GI X) : ∀ Y ∈ keepM HM X, GI Y := by
  intro Y hY
  unfold keepM at hY
  rw [List.mem_append, List.mem_singleton] at hY
  rcases hY with h | h
  · split at h
    · exact hH Y (List.mem_of_mem_drop h)
    · exact hH Y h
  · rw [h]; exact hI
theorem up_map {SM : Nat → Option MG} {j : Nat} {X : MG} : va_up (mapS SM) j (some X.1) = mapS (va_up SM j (some X)) := by
  funext i
  unfold mapS
  by_cases e : i = j
  · subst e
    rw [va_up_self, va_up_self]
    rfl
  · rw [va_up_ne _ _ e, va_up_ne _ _ e]
def PairQ (Γ : CT) (y6 : MethodName) (X6 : MX) (d6 mc ms : Nat) (a6 : List Value) (y7 : MethodName) (X7 : MX) (d7 : Nat) (a7 : List Value) (w : PW) : Prop := ∃ (v : Int32) (M : PW → Prop), Cl Γ y6 X6 d6 mc ms a6 w (rP v M) ∧ ∀ w1, M w1 → w1[43]? = w[43]? ∧ Cl Γ y7 X7 d7 0 0 a7 w1 (rP v LI)
theorem PairQ.a {Γ : CT} {y6 : MethodName} {X6 : MX} {d6 mc ms : Nat} {a6 : List Value} {y7 : MethodName} {X7 : MX} {d7 : Nat} {a7 : List Value} {w : PW} (h : PairQ Γ y6 X6 d6 mc ms a6 y7 X7 d7 a7 w) : Cl Γ y6 X6 d6 mc ms a6 w (rP (Exists.choose h) (Exists.choose (Exists.choose_spec h))) := (Exists.choose_spec (Exists.choose_spec h)).1
theorem PairQ.b {Γ : CT} {y6 : MethodName} {X6 : MX} {d6 mc ms : Nat} {a6 : List Value} {y7 : MethodName} {X7 : MX} {d7 : Nat} {a7 : List Value} {w w1 : PW} (h : PairQ Γ y6 X6 d6 mc ms a6 y7 X7 d7 a7 w) (hw : (Exists.choose (Exists.choose_spec h)) w1) : w1[43]? = w[43]? ∧ Cl Γ y7 X7 d7 0 0 a7 w1 (rP (Exists.choose h) LI) := (Exists.choose_spec (Exists.choose_spec h)).2 w1 hw
theorem pr_mk {Γ : CT} {y6 : MethodName} {X6 : MX} {d6 mc ms : Nat} {a6 : List Value} {y7 : MethodName} {X7 : MX} {d7 : Nat} {a7 : List Value} {w : PW} {v : Int32} {X1 : MG} {H1 : List MG} {S1 : Nat → Option MG} {pf1 : Nat → Int32} {pn1 : Nat} {G2 : GS} {H2 : List GS} {S2 : Nat → Option GS} (c6 : Cl Γ y6 X6 d6 mc ms a6 w (rP v (toRD w G2 H2 S2 pf1 pn1))) (c7 : ∀ w1, FrM w w1 → Cl Γ y7 X7 d7 0 0 a7 w1 (rP v (toMD w1 X1 H1 S1 pf1 pn1))) (eG : G2 = X1.1) (eH : H2 = mapG H1) (eS : S2 = mapS S1) (hI : GI X1) (hH : ∀ Y ∈ H1, GI Y) (hS : ∀ j Y, S1 j = some Y → GI Y) : PairQ Γ y6 X6 d6 mc ms a6 y7 X7 d7 a7 w := by
  subst eG eH eS
  exact ⟨v, _, c6, fun w1 h1 => ⟨h1.2 43 (by omega) (by omega), Cl.mono (c7 w1 h1.2) (fun r w2 h2 => ⟨h2.1, X1, H1, S1, pf1, pn1, h1.1.fm h2.2.1, h2.2.2, hI, hH, hS⟩)⟩⟩
theorem cl6 {Γ : CT} {y : MethodName} {X : MX} {d mc ms : Nat} {a : List Value} {w : PW} {v : Int32} {G : GS} {H : List GS} {S : Nat → Option GS} {pf : Nat → Int32} {pn : Nat} (hr : isRD w G H S pf pn) (c : Cl Γ y X d mc ms a w (rI v w)) : Cl Γ y X d mc ms a w (rP v (toRD w G H S pf pn)) :=
  Cl.mono c (fun r w1 h => ⟨h.1, by rw [h.2]; exact hr.rf⟩)
theorem cl7 {Γ : CT} {y : MethodName} {X : MX} {d : Nat} {a : List Value} {w : PW} {v : Int32} {X1 : MG} {HM : List MG} {SM : Nat → Option MG} {pf : Nat → Int32} {pn : Nat} (hm : isMD w X1 HM SM pf pn) (c : ∀ w1, FrM w w1 → Cl Γ y X d 0 0 a w1 (rI v w1)) : ∀ w1, FrM w w1 → Cl Γ y X d 0 0 a w1 (rP v (toMD w1 X1 HM SM pf pn)) :=
  fun w1 h1 => Cl.mono (c w1 h1) (fun r w2 h => ⟨h.1, by rw [h.2]; exact (hm.fm h1).rf⟩)
theorem pair_clock {Γ : CT} {w : PW} {s : Int32} (hL : LI w) : PairQ Γ yX6_clock XX6_clock 7 7 252 [.ref 0, .int s] yX7_clock XX7_clock 9 [.ref 43, .int s] w := by
  obtain ⟨⟨⟨f, n, mv, jp, cl, lo, ps, cs, mk, qt, oc⟩, P⟩, HM, SM, pf, pn, hr, hm, hI, hH, hS⟩ := hL
  have c6 := tX6_clock (Γ := Γ) (s := s) hr
  have c7 := fun (w1 : PW) (h1 : FrM w w1) => tX7_clock (Γ := Γ) (s := s) (hm.fm h1) hI
  by_cases h : 10 ≤ s ∧ s ≤ 9999
  · simp only [if_pos h] at c6 c7
    exact pr_mk c6 c7 rfl (keep_map (X := ((f, n, mv, jp, cl, lo, ps, cs, mk, qt, oc), P))) rfl (GI.clock hI h.1) (keep_GI hH hI) hS
  · simp only [if_neg h] at c6 c7
    exact pr_mk (cl6 hr c6) (cl7 hm c7) rfl rfl rfl hI hH hS

theorem bg_ex (e : Bool) : ∃ F N, bgFN e F N := by
  cases e
  · exact ⟨stF, stN, fun h => (by cases h), fun _ => ⟨rfl, rfl⟩⟩
  · exact ⟨fun _ => -6, fun _ => 0, fun _ => ⟨rfl, rfl⟩, fun h => by cases h⟩
theorem pair_begin {Γ : CT} {w : PW} {e : Bool} (hL : LI w) : PairQ Γ yX6_begin XX6_begin 7 7 252 [.ref 0, .int (bI e)] yX7_begin XX7_begin 9 [.ref 43, .int (bI e)] w := by
  obtain ⟨⟨⟨f, n, mv, jp, cl, lo, ps, cs, mk, qt, oc⟩, P⟩, HM, SM, pf, pn, hr, hm, hI, hH, hS⟩ := hL
  obtain ⟨F, N, hFN⟩ := bg_ex e
  have c6 := tX6_begin (Γ := Γ) (e := e) hr hFN
  have c7 := fun (w1 : PW) (h1 : FrM w w1) => tX7_begin (Γ := Γ) (e := e) (hm.fm h1) hFN
  exact pr_mk c6 c7 rfl (keep_map (X := ((f, n, mv, jp, cl, lo, ps, cs, mk, qt, oc), P))) rfl (GI.begin hI hFN) (keep_GI hH hI) hS

theorem pair_set {Γ : CT} {w : PW} {s : Int32} {p : Int32} (hL : LI w) : PairQ Γ yX6_set XX6_set 7 7 252 [.ref 0, .int s, .int p] yX7_set XX7_set 9 [.ref 43, .int s, .int p] w := by
  obtain ⟨⟨⟨f, n, mv, jp, cl, lo, ps, cs, mk, qt, oc⟩, P⟩, HM, SM, pf, pn, hr, hm, hI, hH, hS⟩ := hL
  have c6 := tX6_set (Γ := Γ) (s := s) (p := p) hr
  have c7 := fun (w1 : PW) (h1 : FrM w w1) => tX7_set (Γ := Γ) (s := s) (p := p) (hm.fm h1) hI
  by_cases h : inI s 0 47 = true
  · simp only [if_pos h] at c6 c7
    by_cases h2 : p ≠ -6 ∧ inI p 0 3 = false
    · simp only [if_pos h2] at c6 c7
      exact pr_mk (cl6 hr c6) (cl7 hm c7) rfl rfl rfl hI hH hS
    · simp only [if_neg h2] at c6 c7
      by_cases h3 : otm n p (pAt f s) = true
      · simp only [if_pos h3] at c6 c7
        exact pr_mk (cl6 hr c6) (cl7 hm c7) rfl rfl rfl hI hH hS
      · simp only [if_neg h3] at c6 c7
        exact pr_mk c6 c7 rfl (keep_map (X := ((f, n, mv, jp, cl, lo, ps, cs, mk, qt, oc), P))) rfl (GI.set hI h h2 h3) (keep_GI hH hI) hS
  · simp only [if_neg h] at c6 c7
    exact pr_mk (cl6 hr c6) (cl7 hm c7) rfl rfl rfl hI hH hS

theorem pair_turn {Γ : CT} {w : PW} {s : Int32} (hL : LI w) : PairQ Γ yX6_turn XX6_turn 7 7 252 [.ref 0, .int s] yX7_turn XX7_turn 9 [.ref 43, .int s] w := by
  obtain ⟨⟨⟨f, n, mv, jp, cl, lo, ps, cs, mk, qt, oc⟩, P⟩, HM, SM, pf, pn, hr, hm, hI, hH, hS⟩ := hL
  have c6 := tX6_turn (Γ := Γ) (s := s) hr
  have c7 := fun (w1 : PW) (h1 : FrM w w1) => tX7_turn (Γ := Γ) (s := s) (hm.fm h1) hI
  by_cases h : s = 0 ∨ s = 1
  · simp only [if_pos h] at c6 c7
    exact pr_mk c6 c7 rfl (keep_map (X := ((f, n, mv, jp, cl, lo, ps, cs, mk, qt, oc), P))) rfl (GI.turn hI h) (keep_GI hH hI) hS
  · simp only [if_neg h] at c6 c7
    exact pr_mk (cl6 hr c6) (cl7 hm c7) rfl rfl rfl hI hH hS

theorem pair_giveUp {Γ : CT} {w : PW} (hL : LI w) : PairQ Γ yX6_giveUp XX6_giveUp 7 7 252 [.ref 0] yX7_giveUp XX7_giveUp 9 [.ref 43] w := by
  obtain ⟨⟨⟨f, n, mv, jp, cl, lo, ps, cs, mk, qt, oc⟩, P⟩, HM, SM, pf, pn, hr, hm, hI, hH, hS⟩ := hL
  have c6 := tX6_giveUp (Γ := Γ)  hr
  have c7 := fun (w1 : PW) (h1 : FrM w w1) => tX7_giveUp (Γ := Γ)  (hm.fm h1) hI
  by_cases h : oc = 0
  · simp only [if_pos h] at c6 c7
    exact pr_mk c6 c7 rfl (keep_map (X := ((f, n, mv, jp, cl, lo, ps, cs, mk, qt, oc), P))) rfl (GI.giveUp hI) (keep_GI hH hI) hS
  · simp only [if_neg h] at c6 c7
    exact pr_mk (cl6 hr c6) (cl7 hm c7) rfl rfl rfl hI hH hS

theorem pair_hop {Γ : CT} {w : PW} {x : Int32} {sec : Int32} (hL : LI w) : PairQ Γ yX6_hop XX6_hop 7 7 252 [.ref 0, .int x, .int sec] yX7_hop XX7_hop 9 [.ref 43, .int x, .int sec] w := by
  obtain ⟨⟨⟨f, n, mv, jp, cl, lo, ps, cs, mk, qt, oc⟩, P⟩, HM, SM, pf, pn, hr, hm, hI, hH, hS⟩ := hL
  obtain ⟨m, hm2, e0, hc0⟩ := side_ix hI.1.1
  have e0 : mv = nI m := e0
  subst e0
  have c6 := tX6_hop (Γ := Γ) (x := x) (sec := sec) hr hm2 hI.1.ps
  have c7 := fun (w1 : PW) (h1 : FrM w w1) => tX7_hop (Γ := Γ) (x := x) (sec := sec) (hm.fm h1) hI hm2
  have c6 := fun (Q' : Option Value → PW → Prop) => Cl.mono (Q' := Q') c6
  have c7 := fun (Q' : PW → Option Value → PW → Prop) (w1 : PW) (h1 : FrM w w1) => Cl.mono (Q' := Q' w1) (c7 w1 h1)
  by_cases h : hasO (hopsN f (nI m) jp oc) x = true
  · simp only [if_pos h] at c6 c7
    by_cases h2 : 0 ≤ sec ∧ sec ≤ 9999
    · simp only [if_pos h2] at c6 c7
      obtain ⟨q, hq⟩ : ∃ q, (hopsN f (nI m) jp oc)[x.toNatClampNeg]? = some q := by
        have hl192 : (hopsN f (nI m) jp oc).length < 2147483648 := by
          have := hopsN_len (f := f) (mv := nI m) (jp := jp) (oc := oc) hI.1.1
          omega
        obtain ⟨j, hj, e⟩ := hasO_ix hl192 h
        rw [e, nI_clamp (by omega)]
        exact ⟨_, List.getElem?_eq_getElem hj⟩
      exact pr_mk (c6 (rP (gsO (hopG (f, n, nI m, jp, cl, lo, ps, cs, mk, qt, oc) m q sec)) (toRD w (hopG (f, n, nI m, jp, cl, lo, ps, cs, mk, qt, oc) m q sec) (keepL (mapG HM) (f, n, nI m, jp, cl, lo, ps, cs, mk, qt, oc)) (mapS SM) pf pn)) (fun r w1 ⟨q2, e2, z⟩ => by cases e2.symm.trans hq; exact z))
        (c7 (fun w1 => rP (gsO (hopG (f, n, nI m, jp, cl, lo, ps, cs, mk, qt, oc) m q sec)) (toMD w1 (hopM ((f, n, nI m, jp, cl, lo, ps, cs, mk, qt, oc), P) m q sec) (keepM HM ((f, n, nI m, jp, cl, lo, ps, cs, mk, qt, oc), P)) SM pf pn)) · · (fun r w2 ⟨q2, e2, z⟩ => by cases e2.symm.trans hq; exact z)) rfl (keep_map (X := ((f, n, nI m, jp, cl, lo, ps, cs, mk, qt, oc), P))) rfl (GI.hop hI hm2 (List.mem_of_getElem? hq) h2.1) (keep_GI hH hI) hS
    · simp only [if_neg h2] at c6 c7
      exact pr_mk (c6 _ (fun r w1 z => z)) (c7 (fun w1 => rP (-2) (toMD w1 ((f, n, nI m, jp, cl, lo, ps, cs, mk, qt, oc), P) HM SM pf pn)) · · (fun r w2 z => z)) rfl rfl rfl hI hH hS
  · simp only [if_neg h] at c6 c7
    exact pr_mk (c6 _ (fun r w1 z => z)) (c7 (fun w1 => rP (-1) (toMD w1 ((f, n, nI m, jp, cl, lo, ps, cs, mk, qt, oc), P) HM SM pf pn)) · · (fun r w2 z => z)) rfl rfl rfl hI hH hS

theorem pair_play {Γ : CT} {w : PW} {x : Int32} {y : Int32} (hL : LI w) : PairQ Γ yX6_play XX6_play 7 7 252 [.ref 0, .int x, .int y] yX7_play XX7_play 9 [.ref 43, .int x, .int y] w := by
  obtain ⟨⟨⟨f, n, mv, jp, cl, lo, ps, cs, mk, qt, oc⟩, P⟩, HM, SM, pf, pn, hr, hm, hI, hH, hS⟩ := hL
  obtain ⟨m, hm2, e0, hc0⟩ := side_ix hI.1.1
  have e0 : mv = nI m := e0
  subst e0
  have c6 := tX6_play (Γ := Γ) (x := x) (y := y) hr hm2 hI.1.ps
  have c7 := fun (w1 : PW) (h1 : FrM w w1) => tX7_play (Γ := Γ) (x := x) (y := y) (hm.fm h1) hI hm2
  have c6 := fun (Q' : Option Value → PW → Prop) => Cl.mono (Q' := Q') c6
  have c7 := fun (Q' : PW → Option Value → PW → Prop) (w1 : PW) (h1 : FrM w w1) => Cl.mono (Q' := Q' w1) (c7 w1 h1)
  by_cases h : inI x 0 47 = true ∧ inI y 0 47 = true
  · simp only [if_pos h] at c6 c7
    by_cases h2 : fI (isFT x y) (hopsN f (nI m) jp oc) 0 = -6
    · simp only [if_pos h2] at c6 c7
      exact pr_mk (c6 _ (fun r w1 z => z)) (c7 (fun w1 => rP (-5) (toMD w1 ((f, n, nI m, jp, cl, lo, ps, cs, mk, qt, oc), P) HM SM pf pn)) · · (fun r w2 z => z)) rfl rfl rfl hI hH hS
    · simp only [if_neg h2] at c6 c7
      obtain ⟨j, q, hq, hj⟩ : ∃ j q, (hopsN f (nI m) jp oc)[j]? = some q ∧ fI (isFT x y) (hopsN f (nI m) jp oc) 0 = nI j := by
        rcases fI_get (p := isFT x y) (hopsN f (nI m) jp oc) 0 with h9 | ⟨j, q, h9, -, e⟩
        · exact absurd h9.1 h2
        · rw [Nat.zero_add] at e
          exact ⟨j, q, h9, e⟩
      have huq : ∀ j2 q2, (hopsN f (nI m) jp oc)[j2]? = some q2 → fI (isFT x y) (hopsN f (nI m) jp oc) 0 = nI j2 → q2 = q := by
        intro j2 q2 a b
        have hl := hopsN_len (f := f) (mv := nI m) (jp := jp) (oc := oc) hI.1.1
        have l1 := (List.getElem?_eq_some_iff.mp a).1
        have l2 := (List.getElem?_eq_some_iff.mp hq).1
        have e : j2 = j := (nI_eq (by omega) (by omega)).mp (b.symm.trans hj)
        subst e
        exact Option.some.inj (a.symm.trans hq)
      exact pr_mk (c6 (rP (gsO (hopG (f, n, nI m, jp, cl, lo, ps, cs, mk, qt, oc) m q 0)) (toRD w (hopG (f, n, nI m, jp, cl, lo, ps, cs, mk, qt, oc) m q 0) (keepL (mapG HM) (f, n, nI m, jp, cl, lo, ps, cs, mk, qt, oc)) (mapS SM) pf pn)) (fun r w1 ⟨j2, q2, a, b, z⟩ => by cases huq j2 q2 a b; exact z))
        (c7 (fun w1 => rP (gsO (hopG (f, n, nI m, jp, cl, lo, ps, cs, mk, qt, oc) m q 0)) (toMD w1 (hopM ((f, n, nI m, jp, cl, lo, ps, cs, mk, qt, oc), P) m q 0) (keepM HM ((f, n, nI m, jp, cl, lo, ps, cs, mk, qt, oc), P)) SM pf pn)) · · (fun r w2 ⟨j2, q2, a, b, z⟩ => by cases huq j2 q2 a b; exact z)) rfl (keep_map (X := ((f, n, nI m, jp, cl, lo, ps, cs, mk, qt, oc), P))) rfl (GI.hop hI hm2 (List.mem_of_getElem? hq) (Int32.le_refl _)) (keep_GI hH hI) hS
  · simp only [if_neg h] at c6 c7
    exact pr_mk (cl6 hr (c6 _ (fun r w1 z => z))) (cl7 hm (c7 (fun w1 => rI (-1) w1) · · (fun r w2 z => z))) rfl rfl rfl hI hH hS

theorem pair_square {Γ : CT} {w : PW} {s : Int32} {v : Int32} (hL : LI w) : PairQ Γ yX6_square XX6_square 7 0 0 [.ref 0, .int s, .int v] yX7_square XX7_square 9 [.ref 43, .int s, .int v] w := by
  obtain ⟨⟨⟨f, n, mv, jp, cl, lo, ps, cs, mk, qt, oc⟩, P⟩, HM, SM, pf, pn, hr, hm, hI, hH, hS⟩ := hL
  have c6 := tX6_square (Γ := Γ) (s := s) (v := v) hr hI.1.1
  have c7 := fun (w1 : PW) (h1 : FrM w w1) => tX7_square (Γ := Γ) (s := s) (v := v) (hm.fm h1) hI
  by_cases h : inI s 0 47 = true
  · simp only [if_pos h] at c6 c7
    exact pr_mk c6 c7 rfl rfl rfl hI hH hS
  · simp only [if_neg h] at c6 c7
    exact pr_mk (cl6 hr c6) (cl7 hm c7) rfl rfl rfl hI hH hS

theorem pair_step {Γ : CT} {w : PW} {s t : Int32} (hL : LI w) : PairQ Γ yX6_step XX6_step 2 0 0 [.ref 0, .int s, .int t] yX7_step XX7_step 2 [.ref 43, .int s, .int t] w := by
  obtain ⟨⟨⟨f, n, mv, jp, cl, lo, ps, cs, mk, qt, oc⟩, P⟩, HM, SM, pf, pn, hr, hm, hI, hH, hS⟩ := hL
  have c6 := tX6_step (Γ := Γ) (s := s) (t := t) hr.1.1
  have c7 := fun (w1 : PW) (h1 : FrM w w1) => tX7_step (Γ := Γ) (s := s) (t := t) (hm.fm h1).1.choose_spec.choose_spec.choose_spec.choose_spec.choose_spec.choose_spec.choose_spec.1
  by_cases h : inI s 0 47 = true
  · simp only [if_pos h] at c6 c7
    by_cases h2 : 0 ≤ t ∧ t < 4
    · simp only [if_pos h2] at c6 c7
      exact pr_mk (cl6 hr c6) (cl7 hm c7) rfl rfl rfl hI hH hS
    · simp only [if_neg h2] at c6 c7
      exact pr_mk (cl6 hr c6) (cl7 hm c7) rfl rfl rfl hI hH hS
  · simp only [if_neg h] at c6 c7
    exact pr_mk (cl6 hr c6) (cl7 hm c7) rfl rfl rfl hI hH hS

theorem pair_ofHop {Γ : CT} {w : PW} {x : Int32} {v : Int32} (hL : LI w) : PairQ Γ yX6_ofHop XX6_ofHop 7 0 0 [.ref 0, .int x, .int v] yX7_ofHop XX7_ofHop 9 [.ref 43, .int x, .int v] w := by
  obtain ⟨⟨⟨f, n, mv, jp, cl, lo, ps, cs, mk, qt, oc⟩, P⟩, HM, SM, pf, pn, hr, hm, hI, hH, hS⟩ := hL
  have c6 := tX6_ofHop (Γ := Γ) (x := x) (v := v) hr hI.1.1
  have c7 := fun (w1 : PW) (h1 : FrM w w1) => tX7_ofHop (Γ := Γ) (x := x) (v := v) (hm.fm h1) hI
  have c6 := fun (Q' : Option Value → PW → Prop) => Cl.mono (Q' := Q') c6
  have c7 := fun (Q' : PW → Option Value → PW → Prop) (w1 : PW) (h1 : FrM w w1) => Cl.mono (Q' := Q' w1) (c7 w1 h1)
  by_cases h : hasO (hopsN f (mv) jp oc) x = true
  · simp only [if_pos h] at c6 c7
    obtain ⟨q, hq⟩ : ∃ q, (hopsN f (mv) jp oc)[x.toNatClampNeg]? = some q := by
      have hl192 : (hopsN f (mv) jp oc).length < 2147483648 := by
        have := hopsN_len (f := f) (mv := mv) (jp := jp) (oc := oc) hI.1.1
        omega
      obtain ⟨j, hj, e⟩ := hasO_ix hl192 h
      rw [e, nI_clamp (by omega)]
      exact ⟨_, List.getElem?_eq_getElem hj⟩
    exact pr_mk (c6 (rP (ofhO f (mv) q v) (toRD w (f, n, mv, jp, cl, lo, ps, cs, mk, qt, oc) (mapG HM) (mapS SM) pf pn)) (fun r w1 ⟨q2, e2, z⟩ => by cases e2.symm.trans hq; exact z))
      (c7 (fun w1 => rP (ofhO f (mv) q v) (toMD w1 ((f, n, mv, jp, cl, lo, ps, cs, mk, qt, oc), P) HM SM pf pn)) · · (fun r w2 ⟨q2, e2, z⟩ => by cases e2.symm.trans hq; exact z)) rfl rfl rfl hI hH hS
  · simp only [if_neg h] at c6 c7
    exact pr_mk (c6 _ (fun r w1 z => z)) (c7 (fun w1 => rP (-1) (toMD w1 ((f, n, mv, jp, cl, lo, ps, cs, mk, qt, oc), P) HM SM pf pn)) · · (fun r w2 z => z)) rfl rfl rfl hI hH hS

theorem pair_side {Γ : CT} {w : PW} {s : Int32} {v : Int32} (hL : LI w) : PairQ Γ yX6_side XX6_side 7 0 0 [.ref 0, .int s, .int v] yX7_side XX7_side 9 [.ref 43, .int s, .int v] w := by
  obtain ⟨⟨⟨f, n, mv, jp, cl, lo, ps, cs, mk, qt, oc⟩, P⟩, HM, SM, pf, pn, hr, hm, hI, hH, hS⟩ := hL
  have c6 := tX6_side (Γ := Γ) (s := s) (v := v) hr
  have c7 := fun (w1 : PW) (h1 : FrM w w1) => tX7_side (Γ := Γ) (s := s) (v := v) (hm.fm h1) hI
  by_cases h : s = 0 ∨ s = 1
  · simp only [if_pos h] at c6 c7
    exact pr_mk (cl6 hr c6) (cl7 hm c7) rfl rfl rfl hI hH hS
  · simp only [if_neg h] at c6 c7
    exact pr_mk (cl6 hr c6) (cl7 hm c7) rfl rfl rfl hI hH hS

theorem pair_count {Γ : CT} {w : PW} {v : Int32} (hL : LI w) : PairQ Γ yX6_count XX6_count 7 0 0 [.ref 0, .int v] yX7_count XX7_count 9 [.ref 43, .int v] w := by
  obtain ⟨⟨⟨f, n, mv, jp, cl, lo, ps, cs, mk, qt, oc⟩, P⟩, HM, SM, pf, pn, hr, hm, hI, hH, hS⟩ := hL
  have c6 := tX6_count (Γ := Γ) (v := v) hr hI.1.1
  have c7 := fun (w1 : PW) (h1 : FrM w w1) => tX7_count (Γ := Γ) (v := v) (hm.fm h1) hI
  have el : (mapG HM).length = HM.length := List.length_map _
  rw [el] at c6
  exact pr_mk c6 c7 rfl rfl rfl hI hH hS

theorem pair_rows {Γ : CT} {w : PW} {x : Int32} (hL : LI w) : PairQ Γ yX6_rows XX6_rows 11 0 0 [.ref 0, .int x] yX7_rows XX7_rows 9 [.ref 43, .int x] w := by
  obtain ⟨⟨⟨f, n, mv, jp, cl, lo, ps, cs, mk, qt, oc⟩, P⟩, HM, SM, pf, pn, hr, hm, hI, hH, hS⟩ := hL
  have c6 := tX6_rows (Γ := Γ) (x := x) hr hI.1.1
  have c7 := fun (w1 : PW) (h1 : FrM w w1) => tX7_rows (Γ := Γ) (x := x) (hm.fm h1) hI
  by_cases h : 1 ≤ x ∧ x ≤ 3
  · simp only [if_pos h] at c6 c7
    by_cases h2 : oc = 0
    · simp only [if_pos h2] at c6 c7
      exact pr_mk c6 c7 rfl rfl rfl hI hH hS
    · simp only [if_neg h2] at c6 c7
      exact pr_mk (cl6 hr c6) c7 rfl rfl rfl hI hH hS
  · simp only [if_neg h] at c6 c7
    exact pr_mk (cl6 hr c6) (cl7 hm c7) rfl rfl rfl hI hH hS

theorem pair_worth {Γ : CT} {w : PW} {x : Int32} (hL : LI w) : PairQ Γ yX6_worth XX6_worth 11 0 0 [.ref 0, .int x] yX7_worth XX7_worth 9 [.ref 43, .int x] w := by
  obtain ⟨⟨⟨f, n, mv, jp, cl, lo, ps, cs, mk, qt, oc⟩, P⟩, HM, SM, pf, pn, hr, hm, hI, hH, hS⟩ := hL
  have c6 := tX6_worth (Γ := Γ) (x := x) hr hI.1.1
  have c7 := fun (w1 : PW) (h1 : FrM w w1) => tX7_worth (Γ := Γ) (x := x) (hm.fm h1) hI
  by_cases h : 0 ≤ x ∧ x ≤ 2
  · simp only [if_pos h] at c6 c7
    by_cases h2 : oc = 0
    · simp only [if_pos h2] at c6 c7
      exact pr_mk c6 c7 rfl rfl rfl hI hH hS
    · simp only [if_neg h2] at c6 c7
      exact pr_mk (cl6 hr c6) (cl7 hm c7) rfl rfl rfl hI hH hS
  · simp only [if_neg h] at c6 c7
    exact pr_mk (cl6 hr c6) (cl7 hm c7) rfl rfl rfl hI hH hS

theorem pair_best {Γ : CT} {w : PW} {x : Int32} (hL : LI w) : PairQ Γ yX6_best XX6_best 11 0 0 [.ref 0, .int x] yX7_best XX7_best 9 [.ref 43, .int x] w := by
  obtain ⟨⟨⟨f, n, mv, jp, cl, lo, ps, cs, mk, qt, oc⟩, P⟩, HM, SM, pf, pn, hr, hm, hI, hH, hS⟩ := hL
  have c6 := tX6_best (Γ := Γ) (x := x) hr hI.1.1
  have c7 := fun (w1 : PW) (h1 : FrM w w1) => tX7_best (Γ := Γ) (x := x) (hm.fm h1) hI
  by_cases h : 1 ≤ x ∧ x ≤ 2
  · simp only [if_pos h] at c6 c7
    by_cases h2 : oc = 0
    · simp only [if_pos h2] at c6 c7
      exact pr_mk c6 c7 rfl rfl rfl hI hH hS
    · simp only [if_neg h2] at c6 c7
      exact pr_mk (cl6 hr c6) (cl7 hm c7) rfl rfl rfl hI hH hS
  · simp only [if_neg h] at c6 c7
    exact pr_mk (cl6 hr c6) (cl7 hm c7) rfl rfl rfl hI hH hS

theorem pair_put {Γ : CT} {w : PW} {c : Int64} (hL : LI w) : PairQ Γ yX6_put XX6_put 7 0 0 [.ref 0, .long c] yX7_put XX7_put 9 [.ref 43, .long c] w := by
  obtain ⟨⟨⟨f, n, mv, jp, cl, lo, ps, cs, mk, qt, oc⟩, P⟩, HM, SM, pf, pn, hr, hm, hI, hH, hS⟩ := hL
  have c6 := tX6_put (Γ := Γ) (c := c) hr
  have c7 := fun (w1 : PW) (h1 : FrM w w1) => tX7_put (Γ := Γ) (c := c) (hm.fm h1)
  by_cases h : nsO 8 c 0 = 0
  · simp only [if_pos h] at c6 c7
    exact pr_mk (cl6 hr c6) (cl7 hm c7) rfl rfl rfl hI hH hS
  · simp only [if_neg h] at c6 c7
    by_cases h2 : 60 < pn + nsO 8 c 0
    · simp only [if_pos h2] at c6 c7
      exact pr_mk (cl6 hr c6) (cl7 hm c7) rfl rfl rfl hI hH hS
    · simp only [if_neg h2] at c6 c7
      exact pr_mk c6 c7 rfl rfl rfl hI hH hS

theorem pair_wipe {Γ : CT} {w : PW} (hL : LI w) : PairQ Γ yX6_wipe XX6_wipe 7 0 0 [.ref 0] yX7_wipe XX7_wipe 9 [.ref 43] w := by
  obtain ⟨⟨⟨f, n, mv, jp, cl, lo, ps, cs, mk, qt, oc⟩, P⟩, HM, SM, pf, pn, hr, hm, hI, hH, hS⟩ := hL
  have c6 := tX6_wipe (Γ := Γ)  hr
  have c7 := fun (w1 : PW) (h1 : FrM w w1) => tX7_wipe (Γ := Γ)  (hm.fm h1)
  exact pr_mk c6 c7 rfl rfl rfl hI hH hS

theorem pair_fault {Γ : CT} {w : PW} (hL : LI w) : PairQ Γ yX6_fault XX6_fault 7 0 0 [.ref 0] yX7_fault XX7_fault 9 [.ref 43] w := by
  obtain ⟨⟨⟨f, n, mv, jp, cl, lo, ps, cs, mk, qt, oc⟩, P⟩, HM, SM, pf, pn, hr, hm, hI, hH, hS⟩ := hL
  have c6 := tX6_fault (Γ := Γ)  hr
  have c7 := fun (w1 : PW) (h1 : FrM w w1) => tX7_fault (Γ := Γ)  (hm.fm h1)
  exact pr_mk (cl6 hr c6) c7 rfl rfl rfl hI hH hS

theorem pair_undo {Γ : CT} {w : PW} (hL : LI w) : PairQ Γ yX6_undo XX6_undo 7 0 0 [.ref 0] yX7_undo XX7_undo 9 [.ref 43] w := by
  obtain ⟨⟨⟨f, n, mv, jp, cl, lo, ps, cs, mk, qt, oc⟩, P⟩, HM, SM, pf, pn, hr, hm, hI, hH, hS⟩ := hL
  obtain ⟨X1, hX1⟩ : ∃ X1 : MG, 0 < HM.length → HM[HM.length - 1]? = some X1 := by
    rcases Nat.eq_zero_or_pos HM.length with h | h
    · exact ⟨((f, n, mv, jp, cl, lo, ps, cs, mk, qt, oc), P), fun z => by omega⟩
    · exact ⟨HM[HM.length - 1], fun _ => List.getElem?_eq_getElem (by omega)⟩
  have el : (mapG HM).length = HM.length := List.length_map _
  have hG1 : 0 < (mapG HM).length → (mapG HM)[(mapG HM).length - 1]? = some X1.1 := by
    intro h
    rw [el] at h ⊢
    unfold mapG
    rw [List.getElem?_map, hX1 h]
    rfl
  have c6 := tX6_undo (Γ := Γ) hr hG1
  have c7 := fun (w1 : PW) (h1 : FrM w w1) => tX7_undo (Γ := Γ) (hm.fm h1) hX1
  rw [el] at c6
  by_cases h : HM.length = 0
  · simp only [if_pos h] at c6 c7
    exact pr_mk (cl6 hr c6) (cl7 hm c7) rfl rfl rfl hI hH hS
  · simp only [if_neg h] at c6 c7
    have hp := hX1 (by omega)
    exact pr_mk c6 c7 rfl (by unfold mapG; rw [List.map_dropLast]) rfl (hH X1 (List.mem_of_getElem? hp)) (fun Y hY => hH Y ((List.dropLast_subset HM) hY)) hS
theorem pair_save {Γ : CT} {w : PW} {x : Int32} (hL : LI w) : PairQ Γ yX6_save XX6_save 7 7 252 [.ref 0, .int x] yX7_save XX7_save 9 [.ref 43, .int x] w := by
  obtain ⟨⟨⟨f, n, mv, jp, cl, lo, ps, cs, mk, qt, oc⟩, P⟩, HM, SM, pf, pn, hr, hm, hI, hH, hS⟩ := hL
  have c6 := tX6_save (Γ := Γ) (x := x) hr
  have c7 := fun (w1 : PW) (h1 : FrM w w1) => tX7_save (Γ := Γ) (x := x) (hm.fm h1)
  by_cases h : 0 ≤ x ∧ x < 2
  · simp only [if_pos h] at c6 c7
    refine pr_mk c6 c7 rfl rfl (up_map (X := ((f, n, mv, jp, cl, lo, ps, cs, mk, qt, oc), P))) hI hH (fun j Y hY => ?_)
    by_cases e : j = x.toNatClampNeg
    · subst e
      rw [va_up_self] at hY
      cases hY
      exact hI
    · rw [va_up_ne _ _ e] at hY
      exact hS j Y hY
  · simp only [if_neg h] at c6 c7
    exact pr_mk (cl6 hr c6) (cl7 hm c7) rfl rfl rfl hI hH hS

theorem pair_restore {Γ : CT} {w : PW} {x : Int32} (hL : LI w) : PairQ Γ yX6_restore XX6_restore 7 7 252 [.ref 0, .int x] yX7_restore XX7_restore 9 [.ref 43, .int x] w := by
  obtain ⟨⟨⟨f, n, mv, jp, cl, lo, ps, cs, mk, qt, oc⟩, P⟩, HM, SM, pf, pn, hr, hm, hI, hH, hS⟩ := hL
  have c6 := tX6_restore (Γ := Γ) (x := x) hr
  have c7 := fun (w1 : PW) (h1 : FrM w w1) => tX7_restore (Γ := Γ) (x := x) (hm.fm h1)
  by_cases h : 0 ≤ x ∧ x < 2
  · simp only [if_pos h] at c6 c7
    cases hs : SM x.toNatClampNeg with
    | none =>
      have h6 : mapS SM x.toNatClampNeg = none := by unfold mapS; rw [hs]; rfl
      simp only [h6] at c6
      simp only [hs] at c7
      exact pr_mk (cl6 hr c6) (cl7 hm c7) rfl rfl rfl hI hH hS
    | some X1 =>
      have h6 : mapS SM x.toNatClampNeg = some X1.1 := by unfold mapS; rw [hs]; rfl
      simp only [h6] at c6
      simp only [hs] at c7
      exact pr_mk c6 c7 rfl (keep_map (X := ((f, n, mv, jp, cl, lo, ps, cs, mk, qt, oc), P))) rfl (hS _ _ hs) (keep_GI hH hI) hS
  · simp only [if_neg h] at c6 c7
    exact pr_mk (cl6 hr c6) (cl7 hm c7) rfl rfl rfl hI hH hS

theorem pair_playAll {Γ : CT} {w : PW} (hL : LI w) : PairQ Γ yX6_playAll XX6_playAll 7 7 252 [.ref 0] yX7_playAll XX7_playAll 10 [.ref 43] w := by
  obtain ⟨⟨⟨f, n, mv, jp, cl, lo, ps, cs, mk, qt, oc⟩, P⟩, HM, SM, pf, pn, hr, hm, hI, hH, hS⟩ := hL
  have c6 := tX6_playAll (Γ := Γ)  hr hI.1
  have c7 := fun (w1 : PW) (h1 : FrM w w1) => tX7_playAll (Γ := Γ)  (hm.fm h1) hI
  by_cases h : ffO pf pn pn 0 0 0 = -6
  · simp only [if_pos h] at c6 c7
    refine ⟨_, _, c6, fun w1 h1 => ⟨h1.2 43 (by omega) (by omega), Cl.mono (c7 w1 h1.2) (fun r w2 ⟨Xn, hIn, en, z⟩ => ⟨z.1, Xn, keepM HM ((f, n, mv, jp, cl, lo, ps, cs, mk, qt, oc), P), SM, pf, 0, ?_, z.2.2, hIn, keep_GI hH hI, hS⟩)⟩⟩
    rw [en, ← keep_map (X := ((f, n, mv, jp, cl, lo, ps, cs, mk, qt, oc), P))]
    exact h1.1.fm z.2.1
  · simp only [if_neg h] at c6 c7
    exact pr_mk (cl6 hr c6) c7 rfl rfl rfl hI hH hS

