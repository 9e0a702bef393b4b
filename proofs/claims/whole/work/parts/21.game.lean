/-! ===== the game ===== -/
abbrev T3 : Type := Int64 × Int64 × Int64
def cp3 (q : T3) (p : Nat) : Int64 := if p = 0 then q.1 else if p = 1 then q.2.1 else q.2.2
def posO (ps : List T3) (pf : Nat → Int64) : Prop := ∀ (i : Nat) (q : T3), ps[i]? = some q → ∀ p, p < 3 → pf (i * 3 + p) = cp3 q p
def isGm (w : PW) (g : Nat) (f n : Nat → Int32) (mv jp : Int32) (cl lo : Nat → Int32) (ps : List T3) (cs mk qt oc : Int32) : Prop := w[g]? = some (oB 1 [.ref (g + 1), .ref (g + 4), .ref (g + 5), .ref (g + 6), .int (nI ps.length), .int cs, .int mk, .int qt, .int oc]) ∧ isBd w (g + 1) f n mv jp ∧ w[g + 4]? = some (aI 2 cl) ∧ w[g + 5]? = some (aI 2 lo) ∧ ps.length ≤ 61 ∧ ∃ pf : Nat → Int64, posO ps pf ∧ w[g + 6]? = some (aL 183 pf)
def gS (g : Nat) : Nat → Prop := fun h => g ≤ h ∧ h < g + 7
def toGm (w : PW) (g : Nat) (f n : Nat → Int32) (mv jp : Int32) (cl lo : Nat → Int32) (ps : List T3) (cs mk qt oc : Int32) : PW → Prop := fun w1 => Fr w w1 (gS g) ∧ isGm w1 g f n mv jp cl lo ps cs mk qt oc
theorem isGm.o {w : PW} {g : Nat} {f n : Nat → Int32} {mv jp : Int32} {cl lo : Nat → Int32} {ps : List T3} {cs mk qt oc : Int32} (h : isGm w g f n mv jp cl lo ps cs mk qt oc) : w[g]? = some (oB 1 [.ref (g + 1), .ref (g + 4), .ref (g + 5), .ref (g + 6), .int (nI ps.length), .int cs, .int mk, .int qt, .int oc]) := h.1
theorem isGm.fr {w w1 : PW} {g : Nat} {f n : Nat → Int32} {mv jp : Int32} {cl lo : Nat → Int32} {ps : List T3} {cs mk qt oc : Int32} {S : Nat → Prop} (h : isGm w g f n mv jp cl lo ps cs mk qt oc) (hF : Fr w w1 S) (hS : ∀ q, g ≤ q → q < g + 7 → ¬ S q) : isGm w1 g f n mv jp cl lo ps cs mk qt oc := by
  obtain ⟨h0, h1, h2, h3, h4, pf, h5, h6⟩ := h
  exact ⟨hF.at (hS _ (by omega) (by omega)) h0, h1.fr hF (fun q a b => hS q (by omega) (by omega)), hF.at (hS _ (by omega) (by omega)) h2, hF.at (hS _ (by omega) (by omega)) h3, h4, pf, h5, hF.at (hS _ (by omega) (by omega)) h6⟩
theorem Fr.sr {w u : PW} {S : Nat → Prop} {h : Nat} {c : PC} (hF : Fr w u S) (hS : S h) : Fr w (u.set h c) S := hF.tr (Fr.st hS)
theorem isBd.sr {w : PW} {b : Nat} {f n : Nat → Int32} {mv jp : Int32} {h : Nat} {c : PC} (k : isBd w b f n mv jp) (hn : h < b ∨ b + 3 ≤ h) : isBd (w.set h c) b f n mv jp := k.fr (S := fun q => q = h) (Fr.st rfl) (fun q a b e => by omega)
theorem toBd.g {w w1 : PW} {g : Nat} {f n : Nat → Int32} {mv jp : Int32} (h : toBd w (g + 1) f n mv jp w1) : Fr w w1 (gS g) := h.1.mono (fun q a => ⟨by have := a.1; omega, by have := a.2; omega⟩)
theorem lc_0 {x y : Int64} (h : lg_cmp x y = 0) : x = y := (lg_cmp_eq x y).mp h
theorem lc_n {x y : Int64} (h : ¬ lg_cmp x y = 0) : ¬ x = y := fun e => h ((lg_cmp_eq x y).mpr e)
set_option maxRecDepth 100000 in
theorem tX1_copyFrom {Γ : CT} {w : PW} {g : Nat} {f n : Nat → Int32} {mv jp : Int32} {cl lo : Nat → Int32} {ps : List T3} {cs mk qt oc : Int32} {c : Nat} {f2 n2 : Nat → Int32} {mv2 jp2 : Int32} {cl2 lo2 : Nat → Int32} {ps2 : List T3} {cs2 mk2 qt2 oc2 : Int32} (hg : isGm w g f n mv jp cl lo ps cs mk qt oc) (hc : isGm w c f2 n2 mv2 jp2 cl2 lo2 ps2 cs2 mk2 qt2 oc2) (hap : g + 7 ≤ c ∨ c + 7 ≤ g) : Cl Γ yX1_copyFrom XX1_copyFrom 2 0 0 [.ref g, .ref c] w (rN (toGm w g f2 n2 mv2 jp2 cl2 lo2 ps2 cs2 mk2 qt2 oc2)) := by
  refine Cl.of (ls := [some (.ref g), some (.ref c)]) rfl (by decide +kernel) (fun h => by cases h) (Nat.le_of_ble_eq_true rfl) rfl ?_
  obtain ⟨g0, gb, g4, g5, gl, pf, gO, g6⟩ := id hg
  obtain ⟨c0, cb, c4, c5, c7, pf2, cO, c6⟩ := id hc
  refine r_aload_n 1 dX1_copyFrom_0 rfl rfl rfl ?_
  refine r_getf 4 dX1_copyFrom_1 rfl f_X1_12.r (by repeat (first | assumption | exact isBd.o (by assumption) | exact isHp.o (by assumption) | exact isGm.o (by assumption) | refine gs_eq ?_ | refine gs_ne (by omega) ?_ | exact is_of (by assumption) | refine gs_is ?_)) rfl ?_
  refine r_aload_n 5 dX1_copyFrom_4 rfl rfl rfl ?_
  refine r_getf 8 dX1_copyFrom_5 rfl f_X1_12.r (by repeat (first | assumption | exact isBd.o (by assumption) | exact isHp.o (by assumption) | exact isGm.o (by assumption) | refine gs_eq ?_ | refine gs_ne (by omega) ?_ | exact is_of (by assumption) | refine gs_is ?_)) rfl ?_
  refine r_callV0 11 dX1_copyFrom_8 rfl (tX0_copyFrom gb cb (by omega)) l_X1_45 mX0_copyFrom rfl (by repeat (first | assumption | exact isBd.o (by assumption) | exact isHp.o (by assumption) | exact isGm.o (by assumption) | refine gs_eq ?_ | refine gs_ne (by omega) ?_ | exact is_of (by assumption) | refine gs_is ?_)) rfl (by decide) (Nat.le_of_ble_eq_true rfl) (by decide) (qN fun w1 h1 => ?_)
  have hF := h1.g
  have d0 := h1.1.at (h := g) (by unfold bS; omega) g0
  have d4 := h1.1.at (h := g + 4) (by unfold bS; omega) g4
  have d5 := h1.1.at (h := g + 5) (by unfold bS; omega) g5
  have d6 := h1.1.at (h := g + 6) (by unfold bS; omega) g6
  have e0 := h1.1.at (h := c) (by unfold bS; omega) c0
  have e4 := h1.1.at (h := c + 4) (by unfold bS; omega) c4
  have e5 := h1.1.at (h := c + 5) (by unfold bS; omega) c5
  have e6 := h1.1.at (h := c + 6) (by unfold bS; omega) c6
  refine r_aload_n 12 dX1_copyFrom_11 rfl rfl rfl ?_
  refine r_getf 15 dX1_copyFrom_12 rfl f_X1_18.r (by repeat (first | assumption | exact isBd.o (by assumption) | exact isHp.o (by assumption) | exact isGm.o (by assumption) | refine gs_eq ?_ | refine gs_ne (by omega) ?_ | exact is_of (by assumption) | refine gs_is ?_)) rfl ?_
  refine r_iconst (v := 0) 16 dX1_copyFrom_15 rfl (by decide) ?_
  refine r_aload_n 17 dX1_copyFrom_16 rfl rfl rfl ?_
  refine r_getf 20 dX1_copyFrom_17 rfl f_X1_18.r (by repeat (first | assumption | exact isBd.o (by assumption) | exact isHp.o (by assumption) | exact isGm.o (by assumption) | refine gs_eq ?_ | refine gs_ne (by omega) ?_ | exact is_of (by assumption) | refine gs_is ?_)) rfl ?_
  refine r_iconst (v := 0) 21 dX1_copyFrom_20 rfl (by decide) ?_
  refine r_iconst (v := 2) 22 dX1_copyFrom_21 rfl (by decide) ?_
  refine r_copyI 25 dX1_copyFrom_22 rfl (by repeat (first | assumption | exact isBd.o (by assumption) | exact isHp.o (by assumption) | exact isGm.o (by assumption) | refine gs_eq ?_ | refine gs_ne (by omega) ?_ | exact is_of (by assumption) | refine gs_is ?_)) (by repeat (first | assumption | exact isBd.o (by assumption) | exact isHp.o (by assumption) | exact isGm.o (by assumption) | refine gs_eq ?_ | refine gs_ne (by omega) ?_ | exact is_of (by assumption) | refine gs_is ?_)) rfl rfl rfl (by decide) l_X1_49 w_cp1 w_cp2 w_cp3 (Nat.le_of_ble_eq_true rfl) (by decide) ?_
  refine r_aload_n 26 dX1_copyFrom_25 rfl rfl rfl ?_
  refine r_getf 29 dX1_copyFrom_26 rfl f_X1_22.r (by repeat (first | assumption | exact isBd.o (by assumption) | exact isHp.o (by assumption) | exact isGm.o (by assumption) | refine gs_eq ?_ | refine gs_ne (by omega) ?_ | exact is_of (by assumption) | refine gs_is ?_)) rfl ?_
  refine r_iconst (v := 0) 30 dX1_copyFrom_29 rfl (by decide) ?_
  refine r_aload_n 31 dX1_copyFrom_30 rfl rfl rfl ?_
  refine r_getf 34 dX1_copyFrom_31 rfl f_X1_22.r (by repeat (first | assumption | exact isBd.o (by assumption) | exact isHp.o (by assumption) | exact isGm.o (by assumption) | refine gs_eq ?_ | refine gs_ne (by omega) ?_ | exact is_of (by assumption) | refine gs_is ?_)) rfl ?_
  refine r_iconst (v := 0) 35 dX1_copyFrom_34 rfl (by decide) ?_
  refine r_iconst (v := 2) 36 dX1_copyFrom_35 rfl (by decide) ?_
  refine r_copyI 39 dX1_copyFrom_36 rfl (by repeat (first | assumption | exact isBd.o (by assumption) | exact isHp.o (by assumption) | exact isGm.o (by assumption) | refine gs_eq ?_ | refine gs_ne (by omega) ?_ | exact is_of (by assumption) | refine gs_is ?_)) (by repeat (first | assumption | exact isBd.o (by assumption) | exact isHp.o (by assumption) | exact isGm.o (by assumption) | refine gs_eq ?_ | refine gs_ne (by omega) ?_ | exact is_of (by assumption) | refine gs_is ?_)) rfl rfl rfl (by decide) l_X1_49 w_cp1 w_cp2 w_cp3 (Nat.le_of_ble_eq_true rfl) (by decide) ?_
  refine r_aload_n 40 dX1_copyFrom_39 rfl rfl rfl ?_
  refine r_getf 43 dX1_copyFrom_40 rfl f_X1_25.r (by repeat (first | assumption | exact isBd.o (by assumption) | exact isHp.o (by assumption) | exact isGm.o (by assumption) | refine gs_eq ?_ | refine gs_ne (by omega) ?_ | exact is_of (by assumption) | refine gs_is ?_)) rfl ?_
  refine r_iconst (v := 0) 44 dX1_copyFrom_43 rfl (by decide) ?_
  refine r_aload_n 45 dX1_copyFrom_44 rfl rfl rfl ?_
  refine r_getf 48 dX1_copyFrom_45 rfl f_X1_25.r (by repeat (first | assumption | exact isBd.o (by assumption) | exact isHp.o (by assumption) | exact isGm.o (by assumption) | refine gs_eq ?_ | refine gs_ne (by omega) ?_ | exact is_of (by assumption) | refine gs_is ?_)) rfl ?_
  refine r_iconst (v := 0) 49 dX1_copyFrom_48 rfl (by decide) ?_
  refine r_sipush (v := 183) 52 dX1_copyFrom_49 rfl (by decide) ?_
  refine r_copyL 55 dX1_copyFrom_52 rfl (by repeat (first | assumption | exact isBd.o (by assumption) | exact isHp.o (by assumption) | exact isGm.o (by assumption) | refine gs_eq ?_ | refine gs_ne (by omega) ?_ | exact is_of (by assumption) | refine gs_is ?_)) (by repeat (first | assumption | exact isBd.o (by assumption) | exact isHp.o (by assumption) | exact isGm.o (by assumption) | refine gs_eq ?_ | refine gs_ne (by omega) ?_ | exact is_of (by assumption) | refine gs_is ?_)) rfl rfl rfl (by decide) l_X1_49 w_cp1 w_cp2 w_cp3 (Nat.le_of_ble_eq_true rfl) (by decide) ?_
  refine r_aload_n 56 dX1_copyFrom_55 rfl rfl rfl ?_
  refine r_aload_n 57 dX1_copyFrom_56 rfl rfl rfl ?_
  refine r_getf 60 dX1_copyFrom_57 rfl f_X1_29.r (by repeat (first | assumption | exact isBd.o (by assumption) | exact isHp.o (by assumption) | exact isGm.o (by assumption) | refine gs_eq ?_ | refine gs_ne (by omega) ?_ | exact is_of (by assumption) | refine gs_is ?_)) rfl ?_
  refine r_putf (fs1 := [_, _, _, _, _, _, _, _, _]) 63 dX1_copyFrom_60 rfl f_X1_29 (by repeat (first | assumption | exact isBd.o (by assumption) | exact isHp.o (by assumption) | exact isGm.o (by assumption) | refine gs_eq ?_ | refine gs_ne (by omega) ?_ | exact is_of (by assumption) | refine gs_is ?_)) rfl (by simp only [List.length_cons, List.length_nil]; omega) rfl ?_
  refine r_aload_n 64 dX1_copyFrom_63 rfl rfl rfl ?_
  refine r_aload_n 65 dX1_copyFrom_64 rfl rfl rfl ?_
  refine r_getf 68 dX1_copyFrom_65 rfl f_X1_33.r (by repeat (first | assumption | exact isBd.o (by assumption) | exact isHp.o (by assumption) | exact isGm.o (by assumption) | refine gs_eq ?_ | refine gs_ne (by omega) ?_ | exact is_of (by assumption) | refine gs_is ?_)) rfl ?_
  refine r_putf (fs1 := [_, _, _, _, _, _, _, _, _]) 71 dX1_copyFrom_68 rfl f_X1_33 (by repeat (first | assumption | exact isBd.o (by assumption) | exact isHp.o (by assumption) | exact isGm.o (by assumption) | refine gs_eq ?_ | refine gs_ne (by omega) ?_ | exact is_of (by assumption) | refine gs_is ?_)) rfl (by simp only [List.length_cons, List.length_nil]; omega) rfl ?_
  refine r_aload_n 72 dX1_copyFrom_71 rfl rfl rfl ?_
  refine r_aload_n 73 dX1_copyFrom_72 rfl rfl rfl ?_
  refine r_getf 76 dX1_copyFrom_73 rfl f_X1_36.r (by repeat (first | assumption | exact isBd.o (by assumption) | exact isHp.o (by assumption) | exact isGm.o (by assumption) | refine gs_eq ?_ | refine gs_ne (by omega) ?_ | exact is_of (by assumption) | refine gs_is ?_)) rfl ?_
  refine r_putf (fs1 := [_, _, _, _, _, _, _, _, _]) 79 dX1_copyFrom_76 rfl f_X1_36 (by repeat (first | assumption | exact isBd.o (by assumption) | exact isHp.o (by assumption) | exact isGm.o (by assumption) | refine gs_eq ?_ | refine gs_ne (by omega) ?_ | exact is_of (by assumption) | refine gs_is ?_)) rfl (by simp only [List.length_cons, List.length_nil]; omega) rfl ?_
  refine r_aload_n 80 dX1_copyFrom_79 rfl rfl rfl ?_
  refine r_aload_n 81 dX1_copyFrom_80 rfl rfl rfl ?_
  refine r_getf 84 dX1_copyFrom_81 rfl f_X1_39.r (by repeat (first | assumption | exact isBd.o (by assumption) | exact isHp.o (by assumption) | exact isGm.o (by assumption) | refine gs_eq ?_ | refine gs_ne (by omega) ?_ | exact is_of (by assumption) | refine gs_is ?_)) rfl ?_
  refine r_putf (fs1 := [_, _, _, _, _, _, _, _, _]) 87 dX1_copyFrom_84 rfl f_X1_39 (by repeat (first | assumption | exact isBd.o (by assumption) | exact isHp.o (by assumption) | exact isGm.o (by assumption) | refine gs_eq ?_ | refine gs_ne (by omega) ?_ | exact is_of (by assumption) | refine gs_is ?_)) rfl (by simp only [List.length_cons, List.length_nil]; omega) rfl ?_
  refine r_aload_n 88 dX1_copyFrom_87 rfl rfl rfl ?_
  refine r_aload_n 89 dX1_copyFrom_88 rfl rfl rfl ?_
  refine r_getf 92 dX1_copyFrom_89 rfl f_X1_42.r (by repeat (first | assumption | exact isBd.o (by assumption) | exact isHp.o (by assumption) | exact isGm.o (by assumption) | refine gs_eq ?_ | refine gs_ne (by omega) ?_ | exact is_of (by assumption) | refine gs_is ?_)) rfl ?_
  refine r_putf (fs1 := [_, _, _, _, _, _, _, _, _]) 95 dX1_copyFrom_92 rfl f_X1_42 (by repeat (first | assumption | exact isBd.o (by assumption) | exact isHp.o (by assumption) | exact isGm.o (by assumption) | refine gs_eq ?_ | refine gs_ne (by omega) ?_ | exact is_of (by assumption) | refine gs_is ?_)) rfl (by simp only [List.length_cons, List.length_nil]; omega) rfl ?_
  refine r_vret dX1_copyFrom_95 rfl (by decide) (by decide) ?_
  refine ⟨rfl, ?_, (by repeat (first | assumption | exact isBd.o (by assumption) | exact isHp.o (by assumption) | exact isGm.o (by assumption) | refine gs_eq ?_ | refine gs_ne (by omega) ?_ | exact is_of (by assumption) | refine gs_is ?_)), ?_, (by repeat (first | assumption | exact isBd.o (by assumption) | exact isHp.o (by assumption) | exact isGm.o (by assumption) | refine gs_eq ?_ | refine gs_ne (by omega) ?_ | exact is_of (by assumption) | refine gs_is ?_)), (by repeat (first | assumption | exact isBd.o (by assumption) | exact isHp.o (by assumption) | exact isGm.o (by assumption) | refine gs_eq ?_ | refine gs_ne (by omega) ?_ | exact is_of (by assumption) | refine gs_is ?_)), c7, pf2, cO, (by repeat (first | assumption | exact isBd.o (by assumption) | exact isHp.o (by assumption) | exact isGm.o (by assumption) | refine gs_eq ?_ | refine gs_ne (by omega) ?_ | exact is_of (by assumption) | refine gs_is ?_))⟩
  · exact (by repeat (first | assumption | refine Fr.sr ?_ ⟨by omega, by omega⟩))
  · exact (by repeat (first | exact h1.2 | refine isBd.sr ?_ (by omega)))

def t3O (f : Nat → Int32) (mv jp : Int32) : T3 := (thO f mv jp 0, thO f mv jp 1, thO f mv jp 2)
theorem cp_t3 {f : Nat → Int32} {mv jp : Int32} {p : Nat} (hp : p < 3) : cp3 (t3O f mv jp) p = thO f mv jp p := by
  match p, hp with
  | 0, _ => rfl
  | 1, _ => rfl
  | 2, _ => rfl
theorem posO_add {ps : List T3} {pf pg : Nat → Int64} {q : T3} (h : posO ps pf) (h1 : ∀ j, j < ps.length * 3 → pg j = pf j) (h2 : ∀ p, p < 3 → pg (ps.length * 3 + p) = cp3 q p) : posO (ps ++ [q]) pg := by
  intro i z hz p hp
  rw [List.getElem?_append] at hz
  by_cases hi : i < ps.length
  · rw [if_pos hi] at hz
    rw [h1 _ (by omega)]
    exact h i z hz p hp
  · rw [if_neg hi] at hz
    have h3 : i - ps.length < 1 := (List.getElem?_eq_some_iff.mp hz).1
    have h4 : i = ps.length := by omega
    subst h4
    rw [Nat.sub_self] at hz
    cases hz
    exact h2 p hp
theorem ul_s {f : Nat → Int64} {k : Nat} {x : Int64} : vp_updL f k x k = x := by simp [vp_updL]
theorem ul_n {f : Nat → Int64} {k j : Nat} {x : Int64} (h : j ≠ k) : vp_updL f k x j = f j := by simp [vp_updL, h]
set_option maxRecDepth 100000 in
theorem tX1_keepPosition {Γ : CT} {w : PW} {g : Nat} {f n : Nat → Int32} {mv jp : Int32} {cl lo : Nat → Int32} {ps : List T3} {cs mk qt oc : Int32} (hg : isGm w g f n mv jp cl lo ps cs mk qt oc) (h60 : ps.length < 61) : Cl Γ yX1_keepPosition XX1_keepPosition 2 0 0 [.ref g] w (rN (toGm w g f n mv jp cl lo (ps ++ [t3O f mv jp]) cs mk qt oc)) := by
  obtain ⟨g0, gb, g4, g5, gl, pf, gO, g6⟩ := id hg
  have loop : ∀ (m i : Nat) (u : PW) (pg : Nat → Int64), i + m = 3 → (Fr w u (fun q => q = g + 6)) → (u[g + 6]? = some (aL 183 pg)) → (∀ j, j < ps.length * 3 → pg j = pf j) → (∀ p, p < i → pg (ps.length * 3 + p) = thO f mv jp p) → Rn Γ XX1_keepPosition (rmO 2 0 0) none (FinM (rN (toGm w g f n mv jp cl lo (ps ++ [t3O f mv jp]) cs mk qt oc)) 0 0) 0 0 u 25 [some (.ref g), some (.int (nI (ps.length * 3))), some (.int (nI i))] [] := by
    intro m
    induction m with
    | zero =>
      intro i u pg hi hF hu h1 h2
      have h3 : i = 3 := by omega
      subst h3
      have d0 := hF.at (h := g) (by omega) g0
      have d4 := hF.at (h := g + 4) (by omega) g4
      have d5 := hF.at (h := g + 5) (by omega) g5
      have db := gb.fr hF (fun q a b e => by omega)
      refine r_iload_n 26 dX1_keepPosition_25 rfl rfl ?_
      refine r_iconst (v := nI 3) 27 dX1_keepPosition_26 rfl (by decide) ?_
      refine r_icmp_ge 52 30 dX1_keepPosition_27 (by decide) rfl (fun q27 => ?_) (fun q27 => absurd q27 (fun z => z (nI_le (by omega) (by omega))))
      refine r_aload_n 53 dX1_keepPosition_52 rfl rfl rfl ?_
      refine r_dup 54 dX1_keepPosition_53 rfl rfl ?_
      refine r_getf 57 dX1_keepPosition_54 rfl f_X1_29.r (by repeat (first | assumption | exact isBd.o (by assumption) | exact isHp.o (by assumption) | exact isGm.o (by assumption) | refine gs_eq ?_ | refine gs_ne (by omega) ?_ | exact is_of (by assumption) | refine gs_is ?_)) rfl ?_
      refine r_iconst (v := 1) 58 dX1_keepPosition_57 rfl (by decide) ?_
      refine r_iadd 59 dX1_keepPosition_58 rfl ?_
      refine r_putf (fs1 := [_, _, _, _, _, _, _, _, _]) 62 dX1_keepPosition_59 rfl f_X1_29 (by repeat (first | assumption | exact isBd.o (by assumption) | exact isHp.o (by assumption) | exact isGm.o (by assumption) | refine gs_eq ?_ | refine gs_ne (by omega) ?_ | exact is_of (by assumption) | refine gs_is ?_)) rfl (by simp only [List.length_cons, List.length_nil]; omega) rfl ?_
      refine r_vret dX1_keepPosition_62 rfl (by decide) (by decide) ?_
      refine ⟨rfl, ?_, ?_, ?_, (by repeat (first | assumption | exact isBd.o (by assumption) | exact isHp.o (by assumption) | exact isGm.o (by assumption) | refine gs_eq ?_ | refine gs_ne (by omega) ?_ | exact is_of (by assumption) | refine gs_is ?_)), (by repeat (first | assumption | exact isBd.o (by assumption) | exact isHp.o (by assumption) | exact isGm.o (by assumption) | refine gs_eq ?_ | refine gs_ne (by omega) ?_ | exact is_of (by assumption) | refine gs_is ?_)), ?_, pg, ?_, (by repeat (first | assumption | exact isBd.o (by assumption) | exact isHp.o (by assumption) | exact isGm.o (by assumption) | refine gs_eq ?_ | refine gs_ne (by omega) ?_ | exact is_of (by assumption) | refine gs_is ?_))⟩
      · exact (hF.mono (fun q e => ⟨by omega, by omega⟩)).tr (Fr.st ⟨by omega, by omega⟩)
      · rw [List.length_append, show nI (ps.length + [t3O f mv jp].length) = nI ps.length + 1 from nI_succ _]
        exact (by repeat (first | assumption | exact isBd.o (by assumption) | exact isHp.o (by assumption) | exact isGm.o (by assumption) | refine gs_eq ?_ | refine gs_ne (by omega) ?_ | exact is_of (by assumption) | refine gs_is ?_))
      · exact db.sr (by omega)
      · rw [List.length_append]
        exact h60
      · exact posO_add gO h1 (fun p hp => by rw [cp_t3 hp]; exact h2 p hp)
    | succ m ih =>
      intro i u pg hi hF hu h1 h2
      have d0 := hF.at (h := g) (by omega) g0
      have db := gb.fr hF (fun q a b e => by omega)
      refine r_iload_n 26 dX1_keepPosition_25 rfl rfl ?_
      refine r_iconst (v := nI 3) 27 dX1_keepPosition_26 rfl (by decide) ?_
      refine r_icmp_ge 52 30 dX1_keepPosition_27 (by decide) rfl (fun q27 => absurd q27 (nI_ge (by omega) (by omega))) (fun q27 => ?_)
      refine r_aload_n 31 dX1_keepPosition_30 rfl rfl rfl ?_
      refine r_getf 34 dX1_keepPosition_31 rfl f_X1_25.r (by repeat (first | assumption | exact isBd.o (by assumption) | exact isHp.o (by assumption) | exact isGm.o (by assumption) | refine gs_eq ?_ | refine gs_ne (by omega) ?_ | exact is_of (by assumption) | refine gs_is ?_)) rfl ?_
      refine r_iload_n 35 dX1_keepPosition_34 rfl rfl ?_
      refine r_iload_n 36 dX1_keepPosition_35 rfl rfl ?_
      refine r_iadd 37 dX1_keepPosition_36 rfl ?_
      rw [nI_add]
      refine r_aload_n 38 dX1_keepPosition_37 rfl rfl rfl ?_
      refine r_getf 41 dX1_keepPosition_38 rfl f_X1_12.r (by repeat (first | assumption | exact isBd.o (by assumption) | exact isHp.o (by assumption) | exact isGm.o (by assumption) | refine gs_eq ?_ | refine gs_ne (by omega) ?_ | exact is_of (by assumption) | refine gs_is ?_)) rfl ?_
      refine r_iload_n 42 dX1_keepPosition_41 rfl rfl ?_
      refine r_callV0 45 dX1_keepPosition_42 rfl (tX0_third db (by omega)) l_X1_117 mX0_third rfl (by repeat (first | assumption | exact isBd.o (by assumption) | exact isHp.o (by assumption) | exact isGm.o (by assumption) | refine gs_eq ?_ | refine gs_ne (by omega) ?_ | exact is_of (by assumption) | refine gs_is ?_)) rfl (by decide) (Nat.le_of_ble_eq_true rfl) (by decide) (qJ ?_)
      refine r_last 46 dX1_keepPosition_45 rfl (ps.length * 3 + i) (by repeat (first | assumption | exact isBd.o (by assumption) | exact isHp.o (by assumption) | exact isGm.o (by assumption) | refine gs_eq ?_ | refine gs_ne (by omega) ?_ | exact is_of (by assumption) | refine gs_is ?_)) rfl (by omega) (by decide) ?_
      refine r_iinc (ls1 := [_, _, _]) 49 dX1_keepPosition_46 rfl (by decide) rfl rfl (nI_1 i) rfl ?_
      refine r_goto 25 dX1_keepPosition_49 (by decide) ?_
      refine ih (i + 1) _ _ (by omega) (hF.tr (Fr.st rfl)) (gs_eq (is_of hu)) (fun j hj => by rw [ul_n (by omega)]; exact h1 j hj) (fun p hp => ?_)
      rcases Nat.lt_or_ge p i with hp1 | hp1
      · rw [ul_n (by omega)]
        exact h2 p hp1
      · rw [show p = i by omega]
        exact ul_s
  refine Cl.of (ls := [some (.ref g), none, none]) rfl (by decide +kernel) (fun h => by cases h) (Nat.le_of_ble_eq_true rfl) rfl ?_
  refine r_aload_n 1 dX1_keepPosition_0 rfl rfl rfl ?_
  refine r_getf 4 dX1_keepPosition_1 rfl f_X1_29.r (by repeat (first | assumption | exact isBd.o (by assumption) | exact isHp.o (by assumption) | exact isGm.o (by assumption) | refine gs_eq ?_ | refine gs_ne (by omega) ?_ | exact is_of (by assumption) | refine gs_is ?_)) rfl ?_
  refine r_iconst (v := nI 3) 5 dX1_keepPosition_4 rfl (by decide) ?_
  refine r_imul 6 dX1_keepPosition_5 rfl ?_
  rw [pk_mul]
  refine r_istore_n (ls1 := [_, _, _]) 7 dX1_keepPosition_6 rfl (by decide) rfl rfl ?_
  refine r_iload_n 8 dX1_keepPosition_7 rfl rfl ?_
  refine r_if_lt 22 11 dX1_keepPosition_8 (by decide) rfl (fun q8 => absurd q8 (nI_pos (by omega))) (fun q8 => ?_)
  refine r_iload_n 12 dX1_keepPosition_11 rfl rfl ?_
  refine r_iconst (v := nI 3) 13 dX1_keepPosition_12 rfl (by decide) ?_
  refine r_iadd 14 dX1_keepPosition_13 rfl ?_
  rw [nI_add]
  refine r_aload_n 15 dX1_keepPosition_14 rfl rfl rfl ?_
  refine r_getf 18 dX1_keepPosition_15 rfl f_X1_25.r (by repeat (first | assumption | exact isBd.o (by assumption) | exact isHp.o (by assumption) | exact isGm.o (by assumption) | refine gs_eq ?_ | refine gs_ne (by omega) ?_ | exact is_of (by assumption) | refine gs_is ?_)) rfl ?_
  refine r_alenL 19 dX1_keepPosition_18 rfl (by repeat (first | assumption | exact isBd.o (by assumption) | exact isHp.o (by assumption) | exact isGm.o (by assumption) | refine gs_eq ?_ | refine gs_ne (by omega) ?_ | exact is_of (by assumption) | refine gs_is ?_)) ?_
  refine r_icmp_le 23 22 dX1_keepPosition_19 (by decide) rfl (fun q19 => ?_) (fun q19 => absurd q19 (fun z => z (nI_le (by omega) (by decide))))
  refine r_iconst (v := nI 0) 24 dX1_keepPosition_23 rfl (by decide) ?_
  refine r_istore_n (ls1 := [_, _, _]) 25 dX1_keepPosition_24 rfl (by decide) rfl rfl ?_
  exact loop 3 0 w pf rfl Fr.rf g6 (fun _ _ => rfl) (fun p hp => absurd hp (by omega))

theorem cp_ext {a b : T3} (h : ∀ p, p < 3 → cp3 a p = cp3 b p) : a = b := by
  obtain ⟨a0, a1, a2⟩ := a
  obtain ⟨b0, b1, b2⟩ := b
  have h0 : a0 = b0 := h 0 (by decide)
  have h1 : a1 = b1 := h 1 (by decide)
  have h2 : a2 = b2 := h 2 (by decide)
  rw [h0, h1, h2]
theorem mn_ab {a b : Nat} (h : a ≤ b) (hb : b < 2147483648) : (if nI b < nI a then nI b else nI a) = nI a := by rw [if_neg (nI_nlt h hb)]
theorem mx_ab {a b : Nat} (h : a ≤ b) (hb : b < 2147483648) : (if nI a < nI b then nI b else nI a) = nI b := by
  split
  · rfl
  · next h1 =>
    rcases Nat.lt_or_ge a b with h2 | h2
    · exact absurd (nI_lt h2 hb) h1
    · rw [Nat.le_antisymm h h2]
set_option maxRecDepth 100000 in
theorem tX1_isSamePosition {Γ : CT} {w : PW} {g : Nat} {f n : Nat → Int32} {mv jp : Int32} {cl lo : Nat → Int32} {ps : List T3} {cs mk qt oc : Int32} {a b : Nat} {qa qb : T3} (hg : isGm w g f n mv jp cl lo ps cs mk qt oc) (hab : a ≤ b) (hqa : ps[a]? = some qa) (hqb : ps[b]? = some qb) : Cl Γ yX1_isSamePosition XX1_isSamePosition 1 0 0 [.ref g, .int (nI a), .int (nI b)] w (rI (bI (decide (qa = qb))) w) := by
  obtain ⟨g0, gb, g4, g5, gl, pf, gO, g6⟩ := id hg
  have hlb : b < ps.length := (List.getElem?_eq_some_iff.mp hqb).1
  have loop : ∀ (m i : Nat) , i + m = 3 → (∀ p, p < i → cp3 qa p = cp3 qb p) → Rn Γ XX1_isSamePosition (rmO 1 0 0) none (FinM (rI (bI (decide (qa = qb))) w) 0 0) 0 0 w 38 [some (.ref g), some (.int (nI a)), some (.int (nI b)), some (.int (nI (a * 3))), some (.int (nI (b * 3))), some (.int (nI i))] [] := by
    intro m
    induction m with
    | zero =>
      intro i  hi hu
      have h3 : i = 3 := by omega
      subst h3
      refine r_iload 40 dX1_isSamePosition_38 rfl rfl ?_
      refine r_iconst (v := nI 3) 41 dX1_isSamePosition_40 rfl (by decide) ?_
      refine r_icmp_ge 75 44 dX1_isSamePosition_41 (by decide) rfl (fun q41 => ?_) (fun q41 => absurd q41 (fun z => z (nI_le (by omega) (by omega))))
      refine r_iconst (v := 1) 76 dX1_isSamePosition_75 rfl (by decide) ?_
      refine r_bret dX1_isSamePosition_76 rfl (by first | exact Or.inl rfl | exact Or.inr rfl) (by decide) (by decide) ?_
      exact ⟨by rw [decide_eq_true (cp_ext hu)]; rfl, rfl⟩
    | succ m ih =>
      intro i  hi hu
      refine r_iload 40 dX1_isSamePosition_38 rfl rfl ?_
      refine r_iconst (v := nI 3) 41 dX1_isSamePosition_40 rfl (by decide) ?_
      refine r_icmp_ge 75 44 dX1_isSamePosition_41 (by decide) rfl (fun q41 => absurd q41 (nI_ge (by omega) (by omega))) (fun q41 => ?_)
      refine r_aload_n 45 dX1_isSamePosition_44 rfl rfl rfl ?_
      refine r_getf 48 dX1_isSamePosition_45 rfl f_X1_25.r (by repeat (first | assumption | exact isBd.o (by assumption) | exact isHp.o (by assumption) | exact isGm.o (by assumption) | refine gs_eq ?_ | refine gs_ne (by omega) ?_ | exact is_of (by assumption) | refine gs_is ?_)) rfl ?_
      refine r_iload_n 49 dX1_isSamePosition_48 rfl rfl ?_
      refine r_iload 51 dX1_isSamePosition_49 rfl rfl ?_
      refine r_iadd 52 dX1_isSamePosition_51 rfl ?_
      rw [nI_add]
      refine r_lald 53 dX1_isSamePosition_52 rfl (a * 3 + i) (by repeat (first | assumption | exact isBd.o (by assumption) | exact isHp.o (by assumption) | exact isGm.o (by assumption) | refine gs_eq ?_ | refine gs_ne (by omega) ?_ | exact is_of (by assumption) | refine gs_is ?_)) rfl (by omega) (by decide) ?_
      refine r_aload_n 54 dX1_isSamePosition_53 rfl rfl rfl ?_
      refine r_getf 57 dX1_isSamePosition_54 rfl f_X1_25.r (by repeat (first | assumption | exact isBd.o (by assumption) | exact isHp.o (by assumption) | exact isGm.o (by assumption) | refine gs_eq ?_ | refine gs_ne (by omega) ?_ | exact is_of (by assumption) | refine gs_is ?_)) rfl ?_
      refine r_iload 59 dX1_isSamePosition_57 rfl rfl ?_
      refine r_iload 61 dX1_isSamePosition_59 rfl rfl ?_
      refine r_iadd 62 dX1_isSamePosition_61 rfl ?_
      rw [nI_add]
      refine r_lald 63 dX1_isSamePosition_62 rfl (b * 3 + i) (by repeat (first | assumption | exact isBd.o (by assumption) | exact isHp.o (by assumption) | exact isGm.o (by assumption) | refine gs_eq ?_ | refine gs_ne (by omega) ?_ | exact is_of (by assumption) | refine gs_is ?_)) rfl (by omega) (by decide) ?_
      refine r_lcmp 64 dX1_isSamePosition_63 rfl ?_
      refine r_if_eq 69 67 dX1_isSamePosition_64 (by decide) rfl (fun q64 => ?_) (fun q64 => ?_)
      · refine r_iinc (ls1 := [_, _, _, _, _, _]) 72 dX1_isSamePosition_69 rfl (by decide) rfl rfl (nI_1 i) rfl ?_
        refine r_goto 38 dX1_isSamePosition_72 (by decide) ?_
        refine ih (i + 1) (by omega) (fun p hp => ?_)
        rcases Nat.lt_or_ge p i with hp1 | hp1
        · exact hu p hp1
        · rw [show p = i by omega, ← gO a qa hqa i (by omega), ← gO b qb hqb i (by omega)]
          exact lc_0 q64
      · refine r_iconst (v := 0) 68 dX1_isSamePosition_67 rfl (by decide) ?_
        refine r_bret dX1_isSamePosition_68 rfl (by first | exact Or.inl rfl | exact Or.inr rfl) (by decide) (by decide) ?_
        exact ⟨by rw [decide_eq_false (fun e => lc_n q64 (by rw [gO a qa hqa i (by omega), gO b qb hqb i (by omega), e]))]; rfl, rfl⟩
  refine Cl.of (ls := [some (.ref g), some (.int (nI a)), some (.int (nI b)), none, none, none]) rfl (by decide +kernel) (fun h => by cases h) (Nat.le_of_ble_eq_true rfl) rfl ?_
  refine r_iload_n 1 dX1_isSamePosition_0 rfl rfl ?_
  refine r_iload_n 2 dX1_isSamePosition_1 rfl rfl ?_
  refine r_callS0 5 dX1_isSamePosition_2 rfl (tJ9_min) l_X1_125 mJ9_min_7cf53 rfl (by decide) (Nat.le_of_ble_eq_true rfl) (by decide) (qI ?_)
  rw [mn_ab hab (by omega)]
  refine r_iconst (v := nI 3) 6 dX1_isSamePosition_5 rfl (by decide) ?_
  refine r_imul 7 dX1_isSamePosition_6 rfl ?_
  rw [pk_mul]
  refine r_istore_n (ls1 := [_, _, _, _, _, _]) 8 dX1_isSamePosition_7 rfl (by decide) rfl rfl ?_
  refine r_iload_n 9 dX1_isSamePosition_8 rfl rfl ?_
  refine r_iload_n 10 dX1_isSamePosition_9 rfl rfl ?_
  refine r_callS0 13 dX1_isSamePosition_10 rfl (tJ9_max) l_X1_131 mJ9_max_7cf53 rfl (by decide) (Nat.le_of_ble_eq_true rfl) (by decide) (qI ?_)
  rw [mx_ab hab (by omega)]
  refine r_iconst (v := nI 3) 14 dX1_isSamePosition_13 rfl (by decide) ?_
  refine r_imul 15 dX1_isSamePosition_14 rfl ?_
  rw [pk_mul]
  refine r_istore (ls1 := [_, _, _, _, _, _]) 17 dX1_isSamePosition_15 rfl (by decide) rfl rfl ?_
  refine r_iload_n 18 dX1_isSamePosition_17 rfl rfl ?_
  refine r_if_lt 33 21 dX1_isSamePosition_18 (by decide) rfl (fun q18 => absurd q18 (nI_pos (by omega))) (fun q18 => ?_)
  refine r_iload 23 dX1_isSamePosition_21 rfl rfl ?_
  refine r_iconst (v := nI 3) 24 dX1_isSamePosition_23 rfl (by decide) ?_
  refine r_iadd 25 dX1_isSamePosition_24 rfl ?_
  rw [nI_add]
  refine r_aload_n 26 dX1_isSamePosition_25 rfl rfl rfl ?_
  refine r_getf 29 dX1_isSamePosition_26 rfl f_X1_25.r (by repeat (first | assumption | exact isBd.o (by assumption) | exact isHp.o (by assumption) | exact isGm.o (by assumption) | refine gs_eq ?_ | refine gs_ne (by omega) ?_ | exact is_of (by assumption) | refine gs_is ?_)) rfl ?_
  refine r_alenL 30 dX1_isSamePosition_29 rfl (by repeat (first | assumption | exact isBd.o (by assumption) | exact isHp.o (by assumption) | exact isGm.o (by assumption) | refine gs_eq ?_ | refine gs_ne (by omega) ?_ | exact is_of (by assumption) | refine gs_is ?_)) ?_
  refine r_icmp_le 35 33 dX1_isSamePosition_30 (by decide) rfl (fun q30 => ?_) (fun q30 => absurd q30 (fun z => z (nI_le (by omega) (by decide))))
  refine r_iconst (v := nI 0) 36 dX1_isSamePosition_35 rfl (by decide) ?_
  refine r_istore (ls1 := [_, _, _, _, _, _]) 38 dX1_isSamePosition_36 rfl (by decide) rfl rfl ?_
  exact loop 3 0 rfl (fun p hp => absurd hp (by omega))

def tmN (ps : List T3) : Nat := ps.countP (fun q => decide (some q = ps[ps.length - 1]?))
set_option maxRecDepth 100000 in
theorem tX1_timesOfNow {Γ : CT} {w : PW} {g : Nat} {f n : Nat → Int32} {mv jp : Int32} {cl lo : Nat → Int32} {ps : List T3} {cs mk qt oc : Int32} (hg : isGm w g f n mv jp cl lo ps cs mk qt oc) : Cl Γ yX1_timesOfNow XX1_timesOfNow 2 0 0 [.ref g] w (rI (nI (tmN ps)) w) := by
  obtain ⟨g0, gb, g4, g5, gl, pf, gO, g6⟩ := id hg
  have loop : ∀ (m i : Nat) (c : Nat), i + m = ps.length → (c + (ps.drop i).countP (fun q => decide (some q = ps[ps.length - 1]?)) = tmN ps) → Rn Γ XX1_timesOfNow (rmO 2 0 0) none (FinM (rI (nI (tmN ps)) w) 0 0) 0 0 w 4 [some (.ref g), some (.int (nI c)), some (.int (nI i))] [] := by
    intro m
    induction m with
    | zero =>
      intro i c hi hu
      have h9 : i = ps.length := by omega
      subst h9
      rw [List.drop_length] at hu
      refine r_iload_n 5 dX1_timesOfNow_4 rfl rfl ?_
      refine r_aload_n 6 dX1_timesOfNow_5 rfl rfl rfl ?_
      refine r_getf 9 dX1_timesOfNow_6 rfl f_X1_29.r (by repeat (first | assumption | exact isBd.o (by assumption) | exact isHp.o (by assumption) | exact isGm.o (by assumption) | refine gs_eq ?_ | refine gs_ne (by omega) ?_ | exact is_of (by assumption) | refine gs_is ?_)) rfl ?_
      refine r_icmp_ge 35 12 dX1_timesOfNow_9 (by decide) rfl (fun q9 => ?_) (fun q9 => absurd q9 (fun z => z (nI_le (by omega) (by omega))))
      refine r_iload_n 36 dX1_timesOfNow_35 rfl rfl ?_
      refine r_iret dX1_timesOfNow_36 rfl (by decide) (by decide) ?_
      exact ⟨by rw [← hu]; rfl, rfl⟩
    | succ m ih =>
      intro i c hi hu
      obtain ⟨q, hq, hd⟩ := drop_c (l := ps) (i := i) (by omega)
      obtain ⟨z, hz⟩ : ∃ z, ps[ps.length - 1]? = some z := ⟨_, List.getElem?_eq_getElem (by omega)⟩
      rw [hd, List.countP_cons] at hu
      have hcz : decide (some q = ps[ps.length - 1]?) = decide (q = z) := by rw [hz]; simp
      rw [hcz] at hu
      refine r_iload_n 5 dX1_timesOfNow_4 rfl rfl ?_
      refine r_aload_n 6 dX1_timesOfNow_5 rfl rfl rfl ?_
      refine r_getf 9 dX1_timesOfNow_6 rfl f_X1_29.r (by repeat (first | assumption | exact isBd.o (by assumption) | exact isHp.o (by assumption) | exact isGm.o (by assumption) | refine gs_eq ?_ | refine gs_ne (by omega) ?_ | exact is_of (by assumption) | refine gs_is ?_)) rfl ?_
      refine r_icmp_ge 35 12 dX1_timesOfNow_9 (by decide) rfl (fun q9 => absurd q9 (nI_ge (by omega) (by omega))) (fun q9 => ?_)
      refine r_aload_n 13 dX1_timesOfNow_12 rfl rfl rfl ?_
      refine r_iload_n 14 dX1_timesOfNow_13 rfl rfl ?_
      refine r_aload_n 15 dX1_timesOfNow_14 rfl rfl rfl ?_
      refine r_getf 18 dX1_timesOfNow_15 rfl f_X1_29.r (by repeat (first | assumption | exact isBd.o (by assumption) | exact isHp.o (by assumption) | exact isGm.o (by assumption) | refine gs_eq ?_ | refine gs_ne (by omega) ?_ | exact is_of (by assumption) | refine gs_is ?_)) rfl ?_
      refine r_iconst (v := nI 1) 19 dX1_timesOfNow_18 rfl (by decide) ?_
      refine r_isub 20 dX1_timesOfNow_19 rfl ?_
      rw [pk_sub (by omega)]
      refine r_callV0 23 dX1_timesOfNow_20 rfl (tX1_isSamePosition hg (by omega) hq hz) l_X1_121 mX1_isSamePosition rfl (by repeat (first | assumption | exact isBd.o (by assumption) | exact isHp.o (by assumption) | exact isGm.o (by assumption) | refine gs_eq ?_ | refine gs_ne (by omega) ?_ | exact is_of (by assumption) | refine gs_is ?_)) rfl (by decide) (Nat.le_of_ble_eq_true rfl) (by decide) (qI ?_)
      refine r_if_eq 29 26 dX1_timesOfNow_23 (by decide) rfl (fun q23 => ?_) (fun q23 => ?_)
      · refine r_iinc (ls1 := [_, _, _]) 32 dX1_timesOfNow_29 rfl (by decide) rfl rfl (nI_1 i) rfl ?_
        refine r_goto 4 dX1_timesOfNow_32 (by decide) ?_
        first | exact ih (i + 1) (c + 1) (by omega) (by rw [if_pos (ne_f q23)] at hu; omega) | exact ih (i + 1) c (by omega) (by rw [if_neg (eq_f q23)] at hu; omega)
      · refine r_iinc (ls1 := [_, _, _]) 29 dX1_timesOfNow_26 rfl (by decide) rfl rfl (nI_1 c) rfl ?_
        refine r_iinc (ls1 := [_, _, _]) 32 dX1_timesOfNow_29 rfl (by decide) rfl rfl (nI_1 i) rfl ?_
        refine r_goto 4 dX1_timesOfNow_32 (by decide) ?_
        first | exact ih (i + 1) (c + 1) (by omega) (by rw [if_pos (ne_f q23)] at hu; omega) | exact ih (i + 1) c (by omega) (by rw [if_neg (eq_f q23)] at hu; omega)
  refine Cl.of (ls := [some (.ref g), none, none]) rfl (by decide +kernel) (fun h => by cases h) (Nat.le_of_ble_eq_true rfl) rfl ?_
  refine r_iconst (v := nI 0) 1 dX1_timesOfNow_0 rfl (by decide) ?_
  refine r_istore_n (ls1 := [_, _, _]) 2 dX1_timesOfNow_1 rfl (by decide) rfl rfl ?_
  refine r_iconst (v := nI 0) 3 dX1_timesOfNow_2 rfl (by decide) ?_
  refine r_istore_n (ls1 := [_, _, _]) 4 dX1_timesOfNow_3 rfl (by decide) rfl rfl ?_
  exact loop ps.length 0 0 (by omega) (by rw [Nat.zero_add]; rfl)

def wonO (s : Int32) : Int32 := if s = 0 then 1 else 2
def judO (f : Nat → Int32) (mv : Int32) (ps : List T3) (qt : Int32) : Int32 := if hasH f mv = true then (if 3 ≤ tmN ps ∨ 60 ≤ qt then 3 else 0) else wonO (1 - mv)
theorem isGm.setO {w : PW} {g : Nat} {f n : Nat → Int32} {mv jp : Int32} {cl lo : Nat → Int32} {ps : List T3} {cs mk qt oc cs1 mk1 qt1 oc1 : Int32} (h : isGm w g f n mv jp cl lo ps cs mk qt oc) : toGm w g f n mv jp cl lo ps cs1 mk1 qt1 oc1 (w.set g (oB 1 [.ref (g + 1), .ref (g + 4), .ref (g + 5), .ref (g + 6), .int (nI ps.length), .int cs1, .int mk1, .int qt1, .int oc1])) := by
  obtain ⟨h0, h1, h2, h3, h4, pf, h5, h6⟩ := h
  exact ⟨Fr.st ⟨by omega, by omega⟩, gs_eq (is_of h0), h1.sr (by omega), gs_ne (by omega) h2, gs_ne (by omega) h3, h4, pf, h5, gs_ne (by omega) h6⟩
theorem toGm.tr {w w1 w2 : PW} {g : Nat} {f n : Nat → Int32} {mv jp : Int32} {cl lo : Nat → Int32} {ps : List T3} {cs mk qt oc : Int32} (h : Fr w w1 (gS g)) (h2 : toGm w1 g f n mv jp cl lo ps cs mk qt oc w2) : toGm w g f n mv jp cl lo ps cs mk qt oc w2 := ⟨h.tr h2.1, h2.2⟩
theorem ps_tm (ps : List T3) : tmN ps ≤ ps.length := List.countP_le_length
set_option maxRecDepth 100000 in
theorem tX1_judge {Γ : CT} {w : PW} {g : Nat} {f n : Nat → Int32} {mv jp : Int32} {cl lo : Nat → Int32} {ps : List T3} {cs mk qt oc : Int32} (hg : isGm w g f n mv jp cl lo ps cs mk qt oc) : Cl Γ yX1_judge XX1_judge 4 0 0 [.ref g] w (rN (toGm w g f n mv jp cl lo ps cs mk qt (judO f mv ps qt))) := by
  refine Cl.of (ls := [some (.ref g)]) rfl (by decide +kernel) (fun h => by cases h) (Nat.le_of_ble_eq_true rfl) rfl ?_
  obtain ⟨g0, gb, g4, g5, gl, pf, gO, g6⟩ := id hg
  refine r_aload_n 1 dX1_judge_0 rfl rfl rfl ?_
  refine r_getf 4 dX1_judge_1 rfl f_X1_12.r (by repeat (first | assumption | exact isBd.o (by assumption) | exact isHp.o (by assumption) | exact isGm.o (by assumption) | refine gs_eq ?_ | refine gs_ne (by omega) ?_ | exact is_of (by assumption) | refine gs_is ?_)) rfl ?_
  refine r_callV0 7 dX1_judge_4 rfl (tX0_hasHop gb) l_X1_109 mX0_hasHop rfl (by repeat (first | assumption | exact isBd.o (by assumption) | exact isHp.o (by assumption) | exact isGm.o (by assumption) | refine gs_eq ?_ | refine gs_ne (by omega) ?_ | exact is_of (by assumption) | refine gs_is ?_)) rfl (by decide) (Nat.le_of_ble_eq_true rfl) (by decide) (qI ?_)
  refine r_if_ne 29 10 dX1_judge_7 (by decide) rfl (fun q7 => ?_) (fun q7 => ?_)
  · refine r_aload_n 30 dX1_judge_29 rfl rfl rfl ?_
    refine r_callV0 33 dX1_judge_30 rfl (tX1_timesOfNow hg) l_X1_113 mX1_timesOfNow rfl (by repeat (first | assumption | exact isBd.o (by assumption) | exact isHp.o (by assumption) | exact isGm.o (by assumption) | refine gs_eq ?_ | refine gs_ne (by omega) ?_ | exact is_of (by assumption) | refine gs_is ?_)) rfl (by decide) (Nat.le_of_ble_eq_true rfl) (by decide) (qI ?_)
    refine r_iconst (v := nI 3) 34 dX1_judge_33 rfl (by decide) ?_
    refine r_icmp_ge 46 37 dX1_judge_34 (by decide) rfl (fun q34 => ?_) (fun q34 => ?_)
    · refine r_aload_n 47 dX1_judge_46 rfl rfl rfl ?_
      refine r_iconst (v := 3) 48 dX1_judge_47 rfl (by decide) ?_
      refine r_putf (fs1 := [_, _, _, _, _, _, _, _, _]) 51 dX1_judge_48 rfl f_X1_42 (by repeat (first | assumption | exact isBd.o (by assumption) | exact isHp.o (by assumption) | exact isGm.o (by assumption) | refine gs_eq ?_ | refine gs_ne (by omega) ?_ | exact is_of (by assumption) | refine gs_is ?_)) rfl (by simp only [List.length_cons, List.length_nil]; omega) rfl ?_
      refine r_goto 59 dX1_judge_51 (by decide) ?_
      refine r_vret dX1_judge_59 rfl (by decide) (by decide) ?_
      first
        | exact ⟨rfl, by rw [judO, if_neg (eq_f q7)]; exact hg.setO⟩
        | exact ⟨rfl, by rw [judO, if_pos (ne_f q7), if_pos (Or.inl ((nI_leI (by decide) (by have := ps_tm ps; omega)).mp q34))]; exact hg.setO⟩
        | exact ⟨rfl, by rw [judO, if_pos (ne_f q7), if_pos (Or.inr (Int32.not_lt.mp q43))]; exact hg.setO⟩
        | exact ⟨rfl, by rw [judO, if_pos (ne_f q7), if_neg (fun z => z.elim (fun a => q34 (nI_le a (by have := ps_tm ps; omega))) (fun a => Int32.not_lt.mpr a q43))]; exact hg.setO⟩
    · refine r_aload_n 38 dX1_judge_37 rfl rfl rfl ?_
      refine r_getf 41 dX1_judge_38 rfl f_X1_39.r (by repeat (first | assumption | exact isBd.o (by assumption) | exact isHp.o (by assumption) | exact isGm.o (by assumption) | refine gs_eq ?_ | refine gs_ne (by omega) ?_ | exact is_of (by assumption) | refine gs_is ?_)) rfl ?_
      refine r_bipush (v := 60) 43 dX1_judge_41 rfl (by decide) ?_
      refine r_icmp_lt 54 46 dX1_judge_43 (by decide) rfl (fun q43 => ?_) (fun q43 => ?_)
      · refine r_aload_n 55 dX1_judge_54 rfl rfl rfl ?_
        refine r_iconst (v := 0) 56 dX1_judge_55 rfl (by decide) ?_
        refine r_putf (fs1 := [_, _, _, _, _, _, _, _, _]) 59 dX1_judge_56 rfl f_X1_42 (by repeat (first | assumption | exact isBd.o (by assumption) | exact isHp.o (by assumption) | exact isGm.o (by assumption) | refine gs_eq ?_ | refine gs_ne (by omega) ?_ | exact is_of (by assumption) | refine gs_is ?_)) rfl (by simp only [List.length_cons, List.length_nil]; omega) rfl ?_
        refine r_vret dX1_judge_59 rfl (by decide) (by decide) ?_
        first
          | exact ⟨rfl, by rw [judO, if_neg (eq_f q7)]; exact hg.setO⟩
          | exact ⟨rfl, by rw [judO, if_pos (ne_f q7), if_pos (Or.inl ((nI_leI (by decide) (by have := ps_tm ps; omega)).mp q34))]; exact hg.setO⟩
          | exact ⟨rfl, by rw [judO, if_pos (ne_f q7), if_pos (Or.inr (Int32.not_lt.mp q43))]; exact hg.setO⟩
          | exact ⟨rfl, by rw [judO, if_pos (ne_f q7), if_neg (fun z => z.elim (fun a => q34 (nI_le a (by have := ps_tm ps; omega))) (fun a => Int32.not_lt.mpr a q43))]; exact hg.setO⟩
      · refine r_aload_n 47 dX1_judge_46 rfl rfl rfl ?_
        refine r_iconst (v := 3) 48 dX1_judge_47 rfl (by decide) ?_
        refine r_putf (fs1 := [_, _, _, _, _, _, _, _, _]) 51 dX1_judge_48 rfl f_X1_42 (by repeat (first | assumption | exact isBd.o (by assumption) | exact isHp.o (by assumption) | exact isGm.o (by assumption) | refine gs_eq ?_ | refine gs_ne (by omega) ?_ | exact is_of (by assumption) | refine gs_is ?_)) rfl (by simp only [List.length_cons, List.length_nil]; omega) rfl ?_
        refine r_goto 59 dX1_judge_51 (by decide) ?_
        refine r_vret dX1_judge_59 rfl (by decide) (by decide) ?_
        first
          | exact ⟨rfl, by rw [judO, if_neg (eq_f q7)]; exact hg.setO⟩
          | exact ⟨rfl, by rw [judO, if_pos (ne_f q7), if_pos (Or.inl ((nI_leI (by decide) (by have := ps_tm ps; omega)).mp q34))]; exact hg.setO⟩
          | exact ⟨rfl, by rw [judO, if_pos (ne_f q7), if_pos (Or.inr (Int32.not_lt.mp q43))]; exact hg.setO⟩
          | exact ⟨rfl, by rw [judO, if_pos (ne_f q7), if_neg (fun z => z.elim (fun a => q34 (nI_le a (by have := ps_tm ps; omega))) (fun a => Int32.not_lt.mpr a q43))]; exact hg.setO⟩
  · refine r_aload_n 11 dX1_judge_10 rfl rfl rfl ?_
    refine r_iconst (v := 1) 12 dX1_judge_11 rfl (by decide) ?_
    refine r_aload_n 13 dX1_judge_12 rfl rfl rfl ?_
    refine r_getf 16 dX1_judge_13 rfl f_X1_12.r (by repeat (first | assumption | exact isBd.o (by assumption) | exact isHp.o (by assumption) | exact isGm.o (by assumption) | refine gs_eq ?_ | refine gs_ne (by omega) ?_ | exact is_of (by assumption) | refine gs_is ?_)) rfl ?_
    refine r_getf 19 dX1_judge_16 rfl f_X1_80.r (by repeat (first | assumption | exact isBd.o (by assumption) | exact isHp.o (by assumption) | exact isGm.o (by assumption) | refine gs_eq ?_ | refine gs_ne (by omega) ?_ | exact is_of (by assumption) | refine gs_is ?_)) rfl ?_
    refine r_isub 20 dX1_judge_19 rfl ?_
    refine r_callSN0 23 dX1_judge_20 rfl (tX6_wonBy) l_X1_87 mX6_wonBy rfl (by decide) (Nat.le_of_ble_eq_true rfl) (by decide) (qI ?_)
    refine r_putf (fs1 := [_, _, _, _, _, _, _, _, _]) 26 dX1_judge_23 rfl f_X1_42 (by repeat (first | assumption | exact isBd.o (by assumption) | exact isHp.o (by assumption) | exact isGm.o (by assumption) | refine gs_eq ?_ | refine gs_ne (by omega) ?_ | exact is_of (by assumption) | refine gs_is ?_)) rfl (by simp only [List.length_cons, List.length_nil]; omega) rfl ?_
    refine r_goto 59 dX1_judge_26 (by decide) ?_
    refine r_vret dX1_judge_59 rfl (by decide) (by decide) ?_
    first
      | exact ⟨rfl, by rw [judO, if_neg (eq_f q7)]; exact hg.setO⟩
      | exact ⟨rfl, by rw [judO, if_pos (ne_f q7), if_pos (Or.inl ((nI_leI (by decide) (by have := ps_tm ps; omega)).mp q34))]; exact hg.setO⟩
      | exact ⟨rfl, by rw [judO, if_pos (ne_f q7), if_pos (Or.inr (Int32.not_lt.mp q43))]; exact hg.setO⟩
      | exact ⟨rfl, by rw [judO, if_pos (ne_f q7), if_neg (fun z => z.elim (fun a => q34 (nI_le a (by have := ps_tm ps; omega))) (fun a => Int32.not_lt.mpr a q43))]; exact hg.setO⟩

