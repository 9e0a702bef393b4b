/-! ===== the game goes on ===== -/
theorem isGm.setP {w : PW} {g : Nat} {f n : Nat → Int32} {mv jp : Int32} {cl lo : Nat → Int32} {ps : List T3} {cs mk qt oc : Int32} (h : isGm w g f n mv jp cl lo ps cs mk qt oc) : toGm w g f n mv jp cl lo [] cs mk qt oc (w.set g (oB 1 [.ref (g + 1), .ref (g + 4), .ref (g + 5), .ref (g + 6), .int 0, .int cs, .int mk, .int qt, .int oc])) := by
  obtain ⟨h0, h1, h2, h3, h4, pf, h5, h6⟩ := h
  exact ⟨Fr.st ⟨by omega, by omega⟩, gs_eq (is_of h0), h1.sr (by omega), gs_ne (by omega) h2, gs_ne (by omega) h3, by simp, pf, (fun i q z => by simp at z), gs_ne (by omega) h6⟩
theorem isGm.bd {w w1 : PW} {g : Nat} {f n f1 n1 : Nat → Int32} {mv jp mv1 jp1 : Int32} {cl lo : Nat → Int32} {ps : List T3} {cs mk qt oc : Int32} (h : isGm w g f n mv jp cl lo ps cs mk qt oc) (k : toBd w (g + 1) f1 n1 mv1 jp1 w1) : toGm w g f1 n1 mv1 jp1 cl lo ps cs mk qt oc w1 := by
  obtain ⟨h0, h1, h2, h3, h4, pf, h5, h6⟩ := h
  exact ⟨k.g, k.1.at (by unfold bS; omega) h0, k.2, k.1.at (by unfold bS; omega) h2, k.1.at (by unfold bS; omega) h3, h4, pf, h5, k.1.at (by unfold bS; omega) h6⟩
theorem isGm.lo {w w1 : PW} {g : Nat} {f n : Nat → Int32} {mv jp : Int32} {cl lo lo1 : Nat → Int32} {ps : List T3} {cs mk qt oc : Int32} (h : isGm w g f n mv jp cl lo ps cs mk qt oc) (k : Fr w w1 (fun q => q = g + 5)) (k2 : w1[g + 5]? = some (aI 2 lo1)) : toGm w g f n mv jp cl lo1 ps cs mk qt oc w1 := by
  obtain ⟨h0, h1, h2, h3, h4, pf, h5, h6⟩ := h
  exact ⟨k.mono (fun q e => ⟨by omega, by omega⟩), k.at (by omega) h0, h1.fr k (fun q a b e => by omega), k.at (by omega) h2, k2, h4, pf, h5, k.at (by omega) h6⟩
theorem isGm.cl {w w1 : PW} {g : Nat} {f n : Nat → Int32} {mv jp : Int32} {cl lo cl1 : Nat → Int32} {ps : List T3} {cs mk qt oc : Int32} (h : isGm w g f n mv jp cl lo ps cs mk qt oc) (k : Fr w w1 (fun q => q = g + 4)) (k2 : w1[g + 4]? = some (aI 2 cl1)) : toGm w g f n mv jp cl1 lo ps cs mk qt oc w1 := by
  obtain ⟨h0, h1, h2, h3, h4, pf, h5, h6⟩ := h
  exact ⟨k.mono (fun q e => ⟨by omega, by omega⟩), k.at (by omega) h0, h1.fr k (fun q a b e => by omega), k2, k.at (by omega) h3, h4, pf, h5, k.at (by omega) h6⟩
set_option maxRecDepth 100000 in
theorem tX1_startFromHere {Γ : CT} {w : PW} {g : Nat} {f n : Nat → Int32} {mv jp : Int32} {cl lo : Nat → Int32} {ps : List T3} {cs mk qt oc : Int32} (hg : isGm w g f n mv jp cl lo ps cs mk qt oc) : Cl Γ yX1_startFromHere XX1_startFromHere 5 0 0 [.ref g] w (rN (toGm w g f n mv (-6) cl (fun _ => 0) [t3O f mv (-6)] cs 0 0 (judO f mv [t3O f mv (-6)] 0))) := by
  refine Cl.of (ls := [some (.ref g)]) rfl (by decide +kernel) (fun h => by cases h) (Nat.le_of_ble_eq_true rfl) rfl ?_
  obtain ⟨g0, gb, g4, g5, gl, pf, gO, g6⟩ := id hg
  refine r_aload_n 1 dX1_startFromHere_0 rfl rfl rfl ?_
  refine r_getf 4 dX1_startFromHere_1 rfl f_X1_12.r (by repeat (first | assumption | exact isBd.o (by assumption) | exact isHp.o (by assumption) | exact isGm.o (by assumption) | refine gs_eq ?_ | refine gs_ne (by omega) ?_ | exact is_of (by assumption) | refine gs_is ?_)) rfl ?_
  refine r_bipush (v := (-6)) 6 dX1_startFromHere_4 rfl (by decide) ?_
  refine r_putf (fs1 := [_, _, _, _]) 9 dX1_startFromHere_6 rfl f_X1_71 (by repeat (first | assumption | exact isBd.o (by assumption) | exact isHp.o (by assumption) | exact isGm.o (by assumption) | refine gs_eq ?_ | refine gs_ne (by omega) ?_ | exact is_of (by assumption) | refine gs_is ?_)) rfl (by simp only [List.length_cons, List.length_nil]; omega) rfl ?_
  have k1 := hg.bd gb.setO (mv1 := mv) (jp1 := -6)
  have k10 := k1.2.2.2.2.1
  have k11 := k1.2.1
  refine r_aload_n 10 dX1_startFromHere_9 rfl rfl rfl ?_
  refine r_getf 13 dX1_startFromHere_10 rfl f_X1_22.r (by repeat (first | assumption | exact isBd.o (by assumption) | exact isHp.o (by assumption) | exact isGm.o (by assumption) | refine gs_eq ?_ | refine gs_ne (by omega) ?_ | exact is_of (by assumption) | refine gs_is ?_)) rfl ?_
  refine r_iconst (v := 0) 14 dX1_startFromHere_13 rfl (by decide) ?_
  refine r_callS0 17 dX1_startFromHere_14 rfl (tJ7_fill k1.2.2.2.2.1 (by decide)) l_X1_62 mJ7_fill_53178 rfl (by decide) (Nat.le_of_ble_eq_true rfl) (by decide) (qN fun w1 h1 => ?_)
  have k2 := k1.2.lo h1.1 h1.2
  have k20 := k2.2.1
  have k3 := k2.2.setO (cs1 := cs) (mk1 := 0) (qt1 := qt) (oc1 := oc)
  have k4 := k3.2.setO (cs1 := cs) (mk1 := 0) (qt1 := 0) (oc1 := oc)
  have k5 := k4.2.setP
  refine r_aload_n 18 dX1_startFromHere_17 rfl rfl rfl ?_
  refine r_iconst (v := 0) 19 dX1_startFromHere_18 rfl (by decide) ?_
  refine r_putf (fs1 := [_, _, _, _, _, _, _, _, _]) 22 dX1_startFromHere_19 rfl f_X1_36 (by repeat (first | assumption | exact isBd.o (by assumption) | exact isHp.o (by assumption) | exact isGm.o (by assumption) | refine gs_eq ?_ | refine gs_ne (by omega) ?_ | exact is_of (by assumption) | refine gs_is ?_)) rfl (by simp only [List.length_cons, List.length_nil]; omega) rfl ?_
  refine r_aload_n 23 dX1_startFromHere_22 rfl rfl rfl ?_
  refine r_iconst (v := 0) 24 dX1_startFromHere_23 rfl (by decide) ?_
  refine r_putf (fs1 := [_, _, _, _, _, _, _, _, _]) 27 dX1_startFromHere_24 rfl f_X1_39 (by repeat (first | assumption | exact isBd.o (by assumption) | exact isHp.o (by assumption) | exact isGm.o (by assumption) | refine gs_eq ?_ | refine gs_ne (by omega) ?_ | exact is_of (by assumption) | refine gs_is ?_)) rfl (by simp only [List.length_cons, List.length_nil]; omega) rfl ?_
  refine r_aload_n 28 dX1_startFromHere_27 rfl rfl rfl ?_
  refine r_iconst (v := 0) 29 dX1_startFromHere_28 rfl (by decide) ?_
  refine r_putf (fs1 := [_, _, _, _, _, _, _, _, _]) 32 dX1_startFromHere_29 rfl f_X1_29 (by repeat (first | assumption | exact isBd.o (by assumption) | exact isHp.o (by assumption) | exact isGm.o (by assumption) | refine gs_eq ?_ | refine gs_ne (by omega) ?_ | exact is_of (by assumption) | refine gs_is ?_)) rfl (by simp only [List.length_cons, List.length_nil]; omega) rfl ?_
  refine r_aload_n 33 dX1_startFromHere_32 rfl rfl rfl ?_
  refine r_callV0 36 dX1_startFromHere_33 rfl (tX1_keepPosition k5.2 (by decide)) l_X1_74 mX1_keepPosition rfl (by repeat (first | assumption | exact isBd.o (by assumption) | exact isHp.o (by assumption) | exact isGm.o (by assumption) | refine gs_eq ?_ | refine gs_ne (by omega) ?_ | exact is_of (by assumption) | refine gs_is ?_)) rfl (by decide) (Nat.le_of_ble_eq_true rfl) (by decide) (qN fun w2 k6 => ?_)
  have k60 := k6.2.1
  refine r_aload_n 37 dX1_startFromHere_36 rfl rfl rfl ?_
  refine r_callV0 40 dX1_startFromHere_37 rfl (tX1_judge k6.2) l_X1_77 mX1_judge rfl (by repeat (first | assumption | exact isBd.o (by assumption) | exact isHp.o (by assumption) | exact isGm.o (by assumption) | refine gs_eq ?_ | refine gs_ne (by omega) ?_ | exact is_of (by assumption) | refine gs_is ?_)) rfl (by decide) (Nat.le_of_ble_eq_true rfl) (by decide) (qN fun w3 k7 => ?_)
  refine r_vret dX1_startFromHere_40 rfl (by decide) (by decide) ?_
  exact ⟨rfl, toGm.tr ((((((k1.1.tr k2.1).tr k3.1).tr k4.1).tr k5.1).tr k6.1)) k7⟩

def stF : Nat → Int32 := rowF (rowF (rowF (rowF (fun _ => -6) 0 1 6) 0 2 6) 2 5 6) 2 6 6
def stN : Nat → Int32 := rowN (rowF (rowF (rowF (fun _ => -6) 0 1 6) 0 2 6) 2 5 6) (rowN (rowF (rowF (fun _ => -6) 0 1 6) 0 2 6) (rowN (rowF (fun _ => -6) 0 1 6) (rowN (fun _ => -6) (fun _ => 0) 0 1 6) 0 2 6) 2 5 6) 2 6 6
def bgFN (e : Bool) (F N : Nat → Int32) : Prop := (e = true → F = (fun _ => -6) ∧ N = (fun _ => 0)) ∧ (e = false → F = stF ∧ N = stN)
theorem stF_eq : stF = rowF (rowF (rowF (rowF (fun _ => -6) 0 1 6) 0 2 6) 2 5 6) 2 6 6 := rfl
theorem stN_eq : stN = rowN (rowF (rowF (rowF (fun _ => -6) 0 1 6) 0 2 6) 2 5 6) (rowN (rowF (rowF (fun _ => -6) 0 1 6) 0 2 6) (rowN (rowF (fun _ => -6) 0 1 6) (rowN (fun _ => -6) (fun _ => 0) 0 1 6) 0 2 6) 2 5 6) 2 6 6 := rfl
set_option maxRecDepth 100000 in
theorem tX1_start {Γ : CT} {w : PW} {g : Nat} {f n : Nat → Int32} {mv jp : Int32} {cl lo : Nat → Int32} {ps : List T3} {cs mk qt oc : Int32} {e : Bool} {F N : Nat → Int32} (hg : isGm w g f n mv jp cl lo ps cs mk qt oc) (hFN : bgFN e F N) : Cl Γ yX1_start XX1_start 6 0 0 [.ref g, .int (bI e)] w (rN (toGm w g F N 0 (-6) (fun _ => cs) (fun _ => 0) [t3O F 0 (-6)] cs 0 0 (judO F 0 [t3O F 0 (-6)] 0))) := by
  obtain ⟨g0, gb, g4, g5, gl, pf, gO, g6⟩ := id hg
  have tail : ∀ (u : PW), toGm w g F N 0 (-6) cl lo ps cs mk qt oc u → Rn Γ XX1_start (rmO 6 0 0) none (FinM (rN (toGm w g F N 0 (-6) (fun _ => cs) (fun _ => 0) [t3O F 0 (-6)] cs 0 0 (judO F 0 [t3O F 0 (-6)] 0))) 0 0) 0 0 u 48 [some (.ref g), some (.int (bI e))] [] := by
    intro u hu
    obtain ⟨u0, ub, u4, u5, ul, pfu, uO, u6⟩ := id hu.2
    refine r_aload_n 49 dX1_start_48 rfl rfl rfl ?_
    refine r_getf 52 dX1_start_49 rfl f_X1_18.r (by repeat (first | assumption | exact isBd.o (by assumption) | exact isHp.o (by assumption) | exact isGm.o (by assumption) | refine gs_eq ?_ | refine gs_ne (by omega) ?_ | exact is_of (by assumption) | refine gs_is ?_)) rfl ?_
    refine r_aload_n 53 dX1_start_52 rfl rfl rfl ?_
    refine r_getf 56 dX1_start_53 rfl f_X1_33.r (by repeat (first | assumption | exact isBd.o (by assumption) | exact isHp.o (by assumption) | exact isGm.o (by assumption) | refine gs_eq ?_ | refine gs_ne (by omega) ?_ | exact is_of (by assumption) | refine gs_is ?_)) rfl ?_
    refine r_callS0 59 dX1_start_56 rfl (tJ7_fill u4 (by decide)) l_X1_62 mJ7_fill_53178 rfl (by decide) (Nat.le_of_ble_eq_true rfl) (by decide) (qN fun w1 h1 => ?_)
    have k1 := hu.2.cl h1.1 h1.2
    have k10 := k1.2.1
    refine r_aload_n 60 dX1_start_59 rfl rfl rfl ?_
    refine r_callV0 63 dX1_start_60 rfl (tX1_startFromHere k1.2) l_X1_68 mX1_startFromHere rfl (by repeat (first | assumption | exact isBd.o (by assumption) | exact isHp.o (by assumption) | exact isGm.o (by assumption) | refine gs_eq ?_ | refine gs_ne (by omega) ?_ | exact is_of (by assumption) | refine gs_is ?_)) rfl (by decide) (Nat.le_of_ble_eq_true rfl) (by decide) (qN fun w2 k2 => ?_)
    refine r_vret dX1_start_63 rfl (by decide) (by decide) ?_
    exact ⟨rfl, toGm.tr (hu.1.tr k1.1) k2⟩
  refine Cl.of (ls := [some (.ref g), some (.int (bI e))]) rfl (by decide +kernel) (fun h => by cases h) (Nat.le_of_ble_eq_true rfl) rfl ?_
  refine r_aload_n 1 dX1_start_0 rfl rfl rfl ?_
  refine r_getf 4 dX1_start_1 rfl f_X1_12.r (by repeat (first | assumption | exact isBd.o (by assumption) | exact isHp.o (by assumption) | exact isGm.o (by assumption) | refine gs_eq ?_ | refine gs_ne (by omega) ?_ | exact is_of (by assumption) | refine gs_is ?_)) rfl ?_
  refine r_callV0 7 dX1_start_4 rfl (tX0_empty gb) l_X1_55 mX0_empty rfl (by repeat (first | assumption | exact isBd.o (by assumption) | exact isHp.o (by assumption) | exact isGm.o (by assumption) | refine gs_eq ?_ | refine gs_ne (by omega) ?_ | exact is_of (by assumption) | refine gs_is ?_)) rfl (by decide) (Nat.le_of_ble_eq_true rfl) (by decide) (qN fun w1 h1 => ?_)
  have k1 := hg.bd h1
  have k10 := k1.2.1
  have k11 := k1.2.2.1
  refine r_iload_n 8 dX1_start_7 rfl rfl ?_
  refine r_if_ne 48 11 dX1_start_8 (by decide) rfl (fun q8 => ?_) (fun q8 => ?_)
  · first
      | exact tail _ (by obtain ⟨e1, e2⟩ := hFN.1 (ne_f q8); rw [e1, e2]; exact k1)
      | exact tail _ (by obtain ⟨e1, e2⟩ := hFN.2 (bI_0.mp q8); rw [e1, e2, stF_eq, stN_eq]; exact ⟨(((k1.1.tr k2.1).tr k3.1).tr k4.1).tr k5.1, k5.2⟩)
  · refine r_aload_n 12 dX1_start_11 rfl rfl rfl ?_
    refine r_getf 15 dX1_start_12 rfl f_X1_12.r (by repeat (first | assumption | exact isBd.o (by assumption) | exact isHp.o (by assumption) | exact isGm.o (by assumption) | refine gs_eq ?_ | refine gs_ne (by omega) ?_ | exact is_of (by assumption) | refine gs_is ?_)) rfl ?_
    refine r_iconst (v := nI 1) 16 dX1_start_15 rfl (by decide) ?_
    refine r_iconst (v := 0) 17 dX1_start_16 rfl (by decide) ?_
    refine r_callV0 20 dX1_start_17 rfl (tX0_fillRow h1.2) l_X1_58 mX0_fillRow rfl (by repeat (first | assumption | exact isBd.o (by assumption) | exact isHp.o (by assumption) | exact isGm.o (by assumption) | refine gs_eq ?_ | refine gs_ne (by omega) ?_ | exact is_of (by assumption) | refine gs_is ?_)) rfl (by decide) (Nat.le_of_ble_eq_true rfl) (by decide) (qN fun w2 h2 => ?_)
    have k2 := k1.2.bd h2
    have k20 := k2.2.1
    have k21 := k2.2.2.1
    refine r_aload_n 21 dX1_start_20 rfl rfl rfl ?_
    refine r_getf 24 dX1_start_21 rfl f_X1_12.r (by repeat (first | assumption | exact isBd.o (by assumption) | exact isHp.o (by assumption) | exact isGm.o (by assumption) | refine gs_eq ?_ | refine gs_ne (by omega) ?_ | exact is_of (by assumption) | refine gs_is ?_)) rfl ?_
    refine r_iconst (v := nI 2) 25 dX1_start_24 rfl (by decide) ?_
    refine r_iconst (v := 0) 26 dX1_start_25 rfl (by decide) ?_
    refine r_callV0 29 dX1_start_26 rfl (tX0_fillRow h2.2) l_X1_58 mX0_fillRow rfl (by repeat (first | assumption | exact isBd.o (by assumption) | exact isHp.o (by assumption) | exact isGm.o (by assumption) | refine gs_eq ?_ | refine gs_ne (by omega) ?_ | exact is_of (by assumption) | refine gs_is ?_)) rfl (by decide) (Nat.le_of_ble_eq_true rfl) (by decide) (qN fun w3 h3 => ?_)
    have k3 := k2.2.bd h3
    have k30 := k3.2.1
    have k31 := k3.2.2.1
    refine r_aload_n 30 dX1_start_29 rfl rfl rfl ?_
    refine r_getf 33 dX1_start_30 rfl f_X1_12.r (by repeat (first | assumption | exact isBd.o (by assumption) | exact isHp.o (by assumption) | exact isGm.o (by assumption) | refine gs_eq ?_ | refine gs_ne (by omega) ?_ | exact is_of (by assumption) | refine gs_is ?_)) rfl ?_
    refine r_iconst (v := nI 5) 34 dX1_start_33 rfl (by decide) ?_
    refine r_iconst (v := 2) 35 dX1_start_34 rfl (by decide) ?_
    refine r_callV0 38 dX1_start_35 rfl (tX0_fillRow h3.2) l_X1_58 mX0_fillRow rfl (by repeat (first | assumption | exact isBd.o (by assumption) | exact isHp.o (by assumption) | exact isGm.o (by assumption) | refine gs_eq ?_ | refine gs_ne (by omega) ?_ | exact is_of (by assumption) | refine gs_is ?_)) rfl (by decide) (Nat.le_of_ble_eq_true rfl) (by decide) (qN fun w4 h4 => ?_)
    have k4 := k3.2.bd h4
    have k40 := k4.2.1
    have k41 := k4.2.2.1
    refine r_aload_n 39 dX1_start_38 rfl rfl rfl ?_
    refine r_getf 42 dX1_start_39 rfl f_X1_12.r (by repeat (first | assumption | exact isBd.o (by assumption) | exact isHp.o (by assumption) | exact isGm.o (by assumption) | refine gs_eq ?_ | refine gs_ne (by omega) ?_ | exact is_of (by assumption) | refine gs_is ?_)) rfl ?_
    refine r_bipush (v := nI 6) 44 dX1_start_42 rfl (by decide) ?_
    refine r_iconst (v := 2) 45 dX1_start_44 rfl (by decide) ?_
    refine r_callV0 48 dX1_start_45 rfl (tX0_fillRow h4.2) l_X1_58 mX0_fillRow rfl (by repeat (first | assumption | exact isBd.o (by assumption) | exact isHp.o (by assumption) | exact isGm.o (by assumption) | refine gs_eq ?_ | refine gs_ne (by omega) ?_ | exact is_of (by assumption) | refine gs_is ?_)) rfl (by decide) (Nat.le_of_ble_eq_true rfl) (by decide) (qN fun w5 h5 => ?_)
    have k5 := k4.2.bd h5
    first
      | exact tail _ (by obtain ⟨e1, e2⟩ := hFN.1 (ne_f q8); rw [e1, e2]; exact k1)
      | exact tail _ (by obtain ⟨e1, e2⟩ := hFN.2 (bI_0.mp q8); rw [e1, e2, stF_eq, stN_eq]; exact ⟨(((k1.1.tr k2.1).tr k3.1).tr k4.1).tr k5.1, k5.2⟩)

def qtB (f : Nat → Int32) (q : HP) : Bool := isKg (f q.1) && decide (q.2.2.2.2 = -6)
def loO (lo : Nat → Int32) (m : Nat) (q : HP) : Nat → Int32 := if q.2.2.2.2 = -6 then lo else upd lo (1 - m) (lo (1 - m) + 1)
def qtO (f : Nat → Int32) (qt : Int32) (q : HP) : Int32 := if qtB f q = true then qt + 1 else 0
def psO (f : Nat → Int32) (mv : Int32) (ps : List T3) (q : HP) : List T3 := (if qtB f q = true then ps else []) ++ [t3O (mkF f mv q) (mkM f mv q) (mkJ f mv q)]
theorem side_t {m : Nat} (hm : m < 2) : decide (nI m = 0 ∨ nI m = 1) = true := by
  match m, hm with
  | 0, _ => rfl
  | 1, _ => rfl
theorem qt_1 {f : Nat → Int32} {q : HP} (h : ¬ bI (isKg (f q.1)) = 0) (h2 : q.2.2.2.2 = -6) : qtB f q = true := by rw [qtB, ne_f h, decide_eq_true h2]; rfl
theorem qt_2 {f : Nat → Int32} {q : HP} (h2 : ¬ q.2.2.2.2 = -6) : qtB f q = false := by rw [qtB, decide_eq_false h2]; simp
theorem qt_3 {f : Nat → Int32} {q : HP} (h : bI (isKg (f q.1)) = 0) : qtB f q = false := by rw [qtB, bI_0.mp h]; rfl
set_option maxRecDepth 100000 in
theorem tX1_makeHop {Γ : CT} {w : PW} {g h : Nat} {f n : Nat → Int32} {m : Nat} {jp : Int32} {cl lo : Nat → Int32} {ps : List T3} {cs mk qt oc : Int32} {l : List HP} {j : Nat} {q : HP} {sec : Int32} (hg : isGm w g f n (nI m) jp cl lo ps cs mk qt oc) (hm : m < 2) (hh : isHp w h l) (hq : l[j]? = some q) (hto : q.2.1 < 48) (hfr : q.1 < 48) (hgh : g + 7 ≤ h ∨ h + 6 ≤ g) (hps : qtB f q = true → ps.length < 61) : Cl Γ yX1_makeHop XX1_makeHop 5 0 0 [.ref g, .ref h, .int (nI j), .int sec] w (rN (if sec ≤ cl m then toGm w g (mkF f (nI m) q) (mkN f n (nI m) q) (mkM f (nI m) q) (mkJ f (nI m) q) (upd cl m (cl m - sec)) (loO lo m q) (psO f (nI m) ps q) cs (mk + 1) (qtO f qt q) (judO (mkF f (nI m) q) (mkM f (nI m) q) (psO f (nI m) ps q) (qtO f qt q)) else toGm w g f n (nI m) jp (upd cl m 0) lo ps cs mk qt (wonO (nI (1 - m))))) := by
  refine Cl.of (ls := [some (.ref g), some (.ref h), some (.int (nI j)), some (.int sec), none, none, none]) rfl (by decide +kernel) (fun h => by cases h) (Nat.le_of_ble_eq_true rfl) rfl ?_
  obtain ⟨g0, gb, g4, g5, gl, pf, gO, g6⟩ := id hg
  refine r_aload_n 1 dX1_makeHop_0 rfl rfl rfl ?_
  refine r_getf 4 dX1_makeHop_1 rfl f_X1_12.r (by repeat (first | assumption | exact isBd.o (by assumption) | exact isHp.o (by assumption) | exact isGm.o (by assumption) | refine gs_eq ?_ | refine gs_ne (by omega) ?_ | exact is_of (by assumption) | refine gs_is ?_)) rfl ?_
  refine r_getf 7 dX1_makeHop_4 rfl f_X1_80.r (by repeat (first | assumption | exact isBd.o (by assumption) | exact isHp.o (by assumption) | exact isGm.o (by assumption) | refine gs_eq ?_ | refine gs_ne (by omega) ?_ | exact is_of (by assumption) | refine gs_is ?_)) rfl ?_
  refine r_istore (ls1 := [_, _, _, _, _, _, _]) 9 dX1_makeHop_7 rfl (by decide) rfl rfl ?_
  refine r_iload 11 dX1_makeHop_9 rfl rfl ?_
  refine r_callSN0 14 dX1_makeHop_11 rfl (tX6_isSide) l_X1_83 mX6_isSide rfl (by decide) (Nat.le_of_ble_eq_true rfl) (by decide) (qI ?_)
  refine r_if_ne 18 17 dX1_makeHop_14 (by decide) rfl (fun q14 => ?_) (fun q14 => absurd q14 (fun z => absurd (side_t hm) (by rw [bI_0.mp z]; decide)))
  refine r_iload_n 19 dX1_makeHop_18 rfl rfl ?_
  refine r_aload_n 20 dX1_makeHop_19 rfl rfl rfl ?_
  refine r_getf 23 dX1_makeHop_20 rfl f_X1_18.r (by repeat (first | assumption | exact isBd.o (by assumption) | exact isHp.o (by assumption) | exact isGm.o (by assumption) | refine gs_eq ?_ | refine gs_ne (by omega) ?_ | exact is_of (by assumption) | refine gs_is ?_)) rfl ?_
  refine r_iload 25 dX1_makeHop_23 rfl rfl ?_
  refine r_iald 26 dX1_makeHop_25 rfl (m) (by repeat (first | assumption | exact isBd.o (by assumption) | exact isHp.o (by assumption) | exact isGm.o (by assumption) | refine gs_eq ?_ | refine gs_ne (by omega) ?_ | exact is_of (by assumption) | refine gs_is ?_)) rfl hm (by decide) ?_
  refine r_icmp_le 49 29 dX1_makeHop_26 (by decide) rfl (fun q26 => ?_) (fun q26 => ?_)
  · refine r_aload_n 50 dX1_makeHop_49 rfl rfl rfl ?_
    refine r_getf 53 dX1_makeHop_50 rfl f_X1_18.r (by repeat (first | assumption | exact isBd.o (by assumption) | exact isHp.o (by assumption) | exact isGm.o (by assumption) | refine gs_eq ?_ | refine gs_ne (by omega) ?_ | exact is_of (by assumption) | refine gs_is ?_)) rfl ?_
    refine r_iload 55 dX1_makeHop_53 rfl rfl ?_
    refine r_dup2 56 dX1_makeHop_55 rfl rfl rfl ?_
    refine r_iald 57 dX1_makeHop_56 rfl (m) (by repeat (first | assumption | exact isBd.o (by assumption) | exact isHp.o (by assumption) | exact isGm.o (by assumption) | refine gs_eq ?_ | refine gs_ne (by omega) ?_ | exact is_of (by assumption) | refine gs_is ?_)) rfl hm (by decide) ?_
    refine r_iload_n 58 dX1_makeHop_57 rfl rfl ?_
    refine r_isub 59 dX1_makeHop_58 rfl ?_
    refine r_iast 60 dX1_makeHop_59 rfl (m) (by repeat (first | assumption | exact isBd.o (by assumption) | exact isHp.o (by assumption) | exact isGm.o (by assumption) | refine gs_eq ?_ | refine gs_ne (by omega) ?_ | exact is_of (by assumption) | refine gs_is ?_)) rfl hm (by decide) ?_
    have k1 := hg.cl (Fr.st rfl) (gs_eq (is_of g4) (c := aI 2 (upd cl m (cl m - sec))))
    have hh0 := hh.fr k1.1 (fun q a b z => by unfold gS at z; omega)
    obtain ⟨u0, gb0, u4, u5, ul, pfu, uO, u6⟩ := id k1.2
    have uh := hh0.o
    refine r_aload_n 61 dX1_makeHop_60 rfl rfl rfl ?_
    refine r_iload_n 62 dX1_makeHop_61 rfl rfl ?_
    refine r_callV0 65 dX1_makeHop_62 rfl (tX3_taken hh0 hq) l_X1_91 mX3_taken rfl (by repeat (first | assumption | exact isBd.o (by assumption) | exact isHp.o (by assumption) | exact isGm.o (by assumption) | refine gs_eq ?_ | refine gs_ne (by omega) ?_ | exact is_of (by assumption) | refine gs_is ?_)) rfl (by decide) (Nat.le_of_ble_eq_true rfl) (by decide) (qI ?_)
    refine r_bipush (v := (-6)) 67 dX1_makeHop_65 rfl (by decide) ?_
    refine r_icmp_eq 74 70 dX1_makeHop_67 (by decide) rfl (fun q67 => ?_) (fun q67 => ?_)
    · refine r_iconst (v := 0) 75 dX1_makeHop_74 rfl (by decide) ?_
      refine r_istore (ls1 := [_, _, _, _, _, _, _]) 77 dX1_makeHop_75 rfl (by decide) rfl rfl ?_
      refine r_aload_n 78 dX1_makeHop_77 rfl rfl rfl ?_
      refine r_getf 81 dX1_makeHop_78 rfl f_X1_12.r (by repeat (first | assumption | exact isBd.o (by assumption) | exact isHp.o (by assumption) | exact isGm.o (by assumption) | refine gs_eq ?_ | refine gs_ne (by omega) ?_ | exact is_of (by assumption) | refine gs_is ?_)) rfl ?_
      refine r_aload_n 82 dX1_makeHop_81 rfl rfl rfl ?_
      refine r_iload_n 83 dX1_makeHop_82 rfl rfl ?_
      refine r_callV0 86 dX1_makeHop_83 rfl (tX3_from hh0 hq) l_X1_96 mX3_from rfl (by repeat (first | assumption | exact isBd.o (by assumption) | exact isHp.o (by assumption) | exact isGm.o (by assumption) | refine gs_eq ?_ | refine gs_ne (by omega) ?_ | exact is_of (by assumption) | refine gs_is ?_)) rfl (by decide) (Nat.le_of_ble_eq_true rfl) (by decide) (qI ?_)
      refine r_callV0 89 dX1_makeHop_86 rfl (tX0_pAt gb0 hfr) l_X1_99 mX0_pieceAt rfl (by repeat (first | assumption | exact isBd.o (by assumption) | exact isHp.o (by assumption) | exact isGm.o (by assumption) | refine gs_eq ?_ | refine gs_ne (by omega) ?_ | exact is_of (by assumption) | refine gs_is ?_)) rfl (by decide) (Nat.le_of_ble_eq_true rfl) (by decide) (qI ?_)
      refine r_callSN0 92 dX1_makeHop_89 rfl (tX6_isKing) l_X1_102 mX6_isKing rfl (by decide) (Nat.le_of_ble_eq_true rfl) (by decide) (qI ?_)
      refine r_if_eq 104 95 dX1_makeHop_92 (by decide) rfl (fun q92 => ?_) (fun q92 => ?_)
      · refine r_iconst (v := 0) 105 dX1_makeHop_104 rfl (by decide) ?_
        refine r_istore (ls1 := [_, _, _, _, _, _, _]) 107 dX1_makeHop_105 rfl (by decide) rfl rfl ?_
        refine r_iload 109 dX1_makeHop_107 rfl rfl ?_
        refine r_if_eq 125 112 dX1_makeHop_109 (by decide) rfl (fun q109 => ?_) (fun q109 => absurd q109 (by decide))
        first
          | (have q66 : q.2.2.2.2 = -6 := q67
             have k2 : toGm _ g f n (nI m) jp _ lo ps cs mk qt oc _ := ⟨Fr.rf, k1.2⟩)
          | (have q66 : ¬ q.2.2.2.2 = -6 := q67
             have k2 := k1.2.lo (Fr.st rfl) (gs_eq (is_of u5) (c := aI 2 (upd lo (1 - m) (lo (1 - m) + 1)))))
        have hh2 := hh0.fr k2.1 (fun q a b z => by unfold gS at z; omega)
        have k20 := k2.2.1
        have k21 := k2.2.2.1
        refine r_aload_n 126 dX1_makeHop_125 rfl rfl rfl ?_
        refine r_getf 129 dX1_makeHop_126 rfl f_X1_12.r (by repeat (first | assumption | exact isBd.o (by assumption) | exact isHp.o (by assumption) | exact isGm.o (by assumption) | refine gs_eq ?_ | refine gs_ne (by omega) ?_ | exact is_of (by assumption) | refine gs_is ?_)) rfl ?_
        refine r_aload_n 130 dX1_makeHop_129 rfl rfl rfl ?_
        refine r_iload_n 131 dX1_makeHop_130 rfl rfl ?_
        refine r_callV0 134 dX1_makeHop_131 rfl (tX0_make k2.2.2.1 hh2 (by unfold apH; omega) hq hto hfr) l_X1_105 mX0_make rfl (by repeat (first | assumption | exact isBd.o (by assumption) | exact isHp.o (by assumption) | exact isGm.o (by assumption) | refine gs_eq ?_ | refine gs_ne (by omega) ?_ | exact is_of (by assumption) | refine gs_is ?_)) rfl (by decide) (Nat.le_of_ble_eq_true rfl) (by decide) (qN fun w3 h3 => ?_)
        have k3 := k2.2.bd h3
        have k30 := k3.2.1
        refine r_aload_n 135 dX1_makeHop_134 rfl rfl rfl ?_
        refine r_dup 136 dX1_makeHop_135 rfl rfl ?_
        refine r_getf 139 dX1_makeHop_136 rfl f_X1_36.r (by repeat (first | assumption | exact isBd.o (by assumption) | exact isHp.o (by assumption) | exact isGm.o (by assumption) | refine gs_eq ?_ | refine gs_ne (by omega) ?_ | exact is_of (by assumption) | refine gs_is ?_)) rfl ?_
        refine r_iconst (v := 1) 140 dX1_makeHop_139 rfl (by decide) ?_
        refine r_iadd 141 dX1_makeHop_140 rfl ?_
        refine r_putf (fs1 := [_, _, _, _, _, _, _, _, _]) 144 dX1_makeHop_141 rfl f_X1_36 (by repeat (first | assumption | exact isBd.o (by assumption) | exact isHp.o (by assumption) | exact isGm.o (by assumption) | refine gs_eq ?_ | refine gs_ne (by omega) ?_ | exact is_of (by assumption) | refine gs_is ?_)) rfl (by simp only [List.length_cons, List.length_nil]; omega) rfl ?_
        have k4 := k3.2.setO (cs1 := cs) (mk1 := mk + 1) (qt1 := qt) (oc1 := oc)
        have k40 := k4.2.1
        refine r_aload_n 145 dX1_makeHop_144 rfl rfl rfl ?_
        refine r_iload 147 dX1_makeHop_145 rfl rfl ?_
        refine r_if_eq 159 150 dX1_makeHop_147 (by decide) rfl (fun q147 => ?_) (fun q147 => absurd q147 (by decide))
        refine r_iconst (v := 0) 160 dX1_makeHop_159 rfl (by decide) ?_
        refine r_putf (fs1 := [_, _, _, _, _, _, _, _, _]) 163 dX1_makeHop_160 rfl f_X1_39 (by repeat (first | assumption | exact isBd.o (by assumption) | exact isHp.o (by assumption) | exact isGm.o (by assumption) | refine gs_eq ?_ | refine gs_ne (by omega) ?_ | exact is_of (by assumption) | refine gs_is ?_)) rfl (by simp only [List.length_cons, List.length_nil]; omega) rfl ?_
        refine r_iload 165 dX1_makeHop_163 rfl rfl ?_
        refine r_if_ne 173 168 dX1_makeHop_165 (by decide) rfl (fun q165 => absurd q165 (by decide)) (fun q165 => ?_)
        refine r_aload_n 169 dX1_makeHop_168 rfl rfl rfl ?_
        refine r_iconst (v := 0) 170 dX1_makeHop_169 rfl (by decide) ?_
        refine r_putf (fs1 := [_, _, _, _, _, _, _, _, _]) 173 dX1_makeHop_170 rfl f_X1_29 (by repeat (first | assumption | exact isBd.o (by assumption) | exact isHp.o (by assumption) | exact isGm.o (by assumption) | refine gs_eq ?_ | refine gs_ne (by omega) ?_ | exact is_of (by assumption) | refine gs_is ?_)) rfl (by simp only [List.length_cons, List.length_nil]; omega) rfl ?_
        first
          | (have hqt := qt_1 q92 q66
             have K60 := hps hqt
             have k6 := k4.2.setO (cs1 := cs) (mk1 := mk + 1) (qt1 := qt + 1) (oc1 := oc))
          | (first
             | have hqt := qt_2 (f := f) q66
             | have hqt := qt_3 (f := f) (q := q) q92
             have k5 := k4.2.setO (cs1 := cs) (mk1 := mk + 1) (qt1 := 0) (oc1 := oc)
             have k5b := k5.2.setP
             have K60 : ([] : List T3).length < 61 := by decide
             have k6 : toGm _ g _ _ _ _ _ _ [] cs (mk + 1) 0 oc _ := ⟨k5.1.tr k5b.1, k5b.2⟩)
        have k60 := k6.2.1
        refine r_aload_n 174 dX1_makeHop_173 rfl rfl rfl ?_
        refine r_callV0 177 dX1_makeHop_174 rfl (tX1_keepPosition k6.2 K60) l_X1_74 mX1_keepPosition rfl (by repeat (first | assumption | exact isBd.o (by assumption) | exact isHp.o (by assumption) | exact isGm.o (by assumption) | refine gs_eq ?_ | refine gs_ne (by omega) ?_ | exact is_of (by assumption) | refine gs_is ?_)) rfl (by decide) (Nat.le_of_ble_eq_true rfl) (by decide) (qN fun w4 k7 => ?_)
        have k70 := k7.2.1
        refine r_aload_n 178 dX1_makeHop_177 rfl rfl rfl ?_
        refine r_callV0 181 dX1_makeHop_178 rfl (tX1_judge k7.2) l_X1_77 mX1_judge rfl (by repeat (first | assumption | exact isBd.o (by assumption) | exact isHp.o (by assumption) | exact isGm.o (by assumption) | refine gs_eq ?_ | refine gs_ne (by omega) ?_ | exact is_of (by assumption) | refine gs_is ?_)) rfl (by decide) (Nat.le_of_ble_eq_true rfl) (by decide) (qN fun w5 k8 => ?_)
        refine r_vret dX1_makeHop_181 rfl (by decide) (by decide) ?_
        refine ⟨rfl, ?_⟩
        rw [if_pos q26]
        first | rw [show loO lo m q = lo from by rw [loO, if_pos q66]] | rw [show loO lo m q = upd lo (1 - m) (lo (1 - m) + 1) from by rw [loO, if_neg q66]]
        rw [psO, qtO, hqt]
        exact toGm.tr (((((k1.1.tr k2.1).tr k3.1).tr k4.1).tr k6.1).tr k7.1) k8
      · refine r_iload 97 dX1_makeHop_95 rfl rfl ?_
        refine r_if_ne 104 100 dX1_makeHop_97 (by decide) rfl (fun q97 => absurd q97 (by decide)) (fun q97 => ?_)
        refine r_iconst (v := 1) 101 dX1_makeHop_100 rfl (by decide) ?_
        refine r_goto 105 dX1_makeHop_101 (by decide) ?_
        refine r_istore (ls1 := [_, _, _, _, _, _, _]) 107 dX1_makeHop_105 rfl (by decide) rfl rfl ?_
        refine r_iload 109 dX1_makeHop_107 rfl rfl ?_
        refine r_if_eq 125 112 dX1_makeHop_109 (by decide) rfl (fun q109 => ?_) (fun q109 => absurd q109 (by decide))
        first
          | (have q66 : q.2.2.2.2 = -6 := q67
             have k2 : toGm _ g f n (nI m) jp _ lo ps cs mk qt oc _ := ⟨Fr.rf, k1.2⟩)
          | (have q66 : ¬ q.2.2.2.2 = -6 := q67
             have k2 := k1.2.lo (Fr.st rfl) (gs_eq (is_of u5) (c := aI 2 (upd lo (1 - m) (lo (1 - m) + 1)))))
        have hh2 := hh0.fr k2.1 (fun q a b z => by unfold gS at z; omega)
        have k20 := k2.2.1
        have k21 := k2.2.2.1
        refine r_aload_n 126 dX1_makeHop_125 rfl rfl rfl ?_
        refine r_getf 129 dX1_makeHop_126 rfl f_X1_12.r (by repeat (first | assumption | exact isBd.o (by assumption) | exact isHp.o (by assumption) | exact isGm.o (by assumption) | refine gs_eq ?_ | refine gs_ne (by omega) ?_ | exact is_of (by assumption) | refine gs_is ?_)) rfl ?_
        refine r_aload_n 130 dX1_makeHop_129 rfl rfl rfl ?_
        refine r_iload_n 131 dX1_makeHop_130 rfl rfl ?_
        refine r_callV0 134 dX1_makeHop_131 rfl (tX0_make k2.2.2.1 hh2 (by unfold apH; omega) hq hto hfr) l_X1_105 mX0_make rfl (by repeat (first | assumption | exact isBd.o (by assumption) | exact isHp.o (by assumption) | exact isGm.o (by assumption) | refine gs_eq ?_ | refine gs_ne (by omega) ?_ | exact is_of (by assumption) | refine gs_is ?_)) rfl (by decide) (Nat.le_of_ble_eq_true rfl) (by decide) (qN fun w3 h3 => ?_)
        have k3 := k2.2.bd h3
        have k30 := k3.2.1
        refine r_aload_n 135 dX1_makeHop_134 rfl rfl rfl ?_
        refine r_dup 136 dX1_makeHop_135 rfl rfl ?_
        refine r_getf 139 dX1_makeHop_136 rfl f_X1_36.r (by repeat (first | assumption | exact isBd.o (by assumption) | exact isHp.o (by assumption) | exact isGm.o (by assumption) | refine gs_eq ?_ | refine gs_ne (by omega) ?_ | exact is_of (by assumption) | refine gs_is ?_)) rfl ?_
        refine r_iconst (v := 1) 140 dX1_makeHop_139 rfl (by decide) ?_
        refine r_iadd 141 dX1_makeHop_140 rfl ?_
        refine r_putf (fs1 := [_, _, _, _, _, _, _, _, _]) 144 dX1_makeHop_141 rfl f_X1_36 (by repeat (first | assumption | exact isBd.o (by assumption) | exact isHp.o (by assumption) | exact isGm.o (by assumption) | refine gs_eq ?_ | refine gs_ne (by omega) ?_ | exact is_of (by assumption) | refine gs_is ?_)) rfl (by simp only [List.length_cons, List.length_nil]; omega) rfl ?_
        have k4 := k3.2.setO (cs1 := cs) (mk1 := mk + 1) (qt1 := qt) (oc1 := oc)
        have k40 := k4.2.1
        refine r_aload_n 145 dX1_makeHop_144 rfl rfl rfl ?_
        refine r_iload 147 dX1_makeHop_145 rfl rfl ?_
        refine r_if_eq 159 150 dX1_makeHop_147 (by decide) rfl (fun q147 => absurd q147 (by decide)) (fun q147 => ?_)
        refine r_aload_n 151 dX1_makeHop_150 rfl rfl rfl ?_
        refine r_getf 154 dX1_makeHop_151 rfl f_X1_39.r (by repeat (first | assumption | exact isBd.o (by assumption) | exact isHp.o (by assumption) | exact isGm.o (by assumption) | refine gs_eq ?_ | refine gs_ne (by omega) ?_ | exact is_of (by assumption) | refine gs_is ?_)) rfl ?_
        refine r_iconst (v := 1) 155 dX1_makeHop_154 rfl (by decide) ?_
        refine r_iadd 156 dX1_makeHop_155 rfl ?_
        refine r_goto 160 dX1_makeHop_156 (by decide) ?_
        refine r_putf (fs1 := [_, _, _, _, _, _, _, _, _]) 163 dX1_makeHop_160 rfl f_X1_39 (by repeat (first | assumption | exact isBd.o (by assumption) | exact isHp.o (by assumption) | exact isGm.o (by assumption) | refine gs_eq ?_ | refine gs_ne (by omega) ?_ | exact is_of (by assumption) | refine gs_is ?_)) rfl (by simp only [List.length_cons, List.length_nil]; omega) rfl ?_
        refine r_iload 165 dX1_makeHop_163 rfl rfl ?_
        refine r_if_ne 173 168 dX1_makeHop_165 (by decide) rfl (fun q165 => ?_) (fun q165 => absurd q165 (by decide))
        first
          | (have hqt := qt_1 q92 q66
             have K60 := hps hqt
             have k6 := k4.2.setO (cs1 := cs) (mk1 := mk + 1) (qt1 := qt + 1) (oc1 := oc))
          | (first
             | have hqt := qt_2 (f := f) q66
             | have hqt := qt_3 (f := f) (q := q) q92
             have k5 := k4.2.setO (cs1 := cs) (mk1 := mk + 1) (qt1 := 0) (oc1 := oc)
             have k5b := k5.2.setP
             have K60 : ([] : List T3).length < 61 := by decide
             have k6 : toGm _ g _ _ _ _ _ _ [] cs (mk + 1) 0 oc _ := ⟨k5.1.tr k5b.1, k5b.2⟩)
        have k60 := k6.2.1
        refine r_aload_n 174 dX1_makeHop_173 rfl rfl rfl ?_
        refine r_callV0 177 dX1_makeHop_174 rfl (tX1_keepPosition k6.2 K60) l_X1_74 mX1_keepPosition rfl (by repeat (first | assumption | exact isBd.o (by assumption) | exact isHp.o (by assumption) | exact isGm.o (by assumption) | refine gs_eq ?_ | refine gs_ne (by omega) ?_ | exact is_of (by assumption) | refine gs_is ?_)) rfl (by decide) (Nat.le_of_ble_eq_true rfl) (by decide) (qN fun w4 k7 => ?_)
        have k70 := k7.2.1
        refine r_aload_n 178 dX1_makeHop_177 rfl rfl rfl ?_
        refine r_callV0 181 dX1_makeHop_178 rfl (tX1_judge k7.2) l_X1_77 mX1_judge rfl (by repeat (first | assumption | exact isBd.o (by assumption) | exact isHp.o (by assumption) | exact isGm.o (by assumption) | refine gs_eq ?_ | refine gs_ne (by omega) ?_ | exact is_of (by assumption) | refine gs_is ?_)) rfl (by decide) (Nat.le_of_ble_eq_true rfl) (by decide) (qN fun w5 k8 => ?_)
        refine r_vret dX1_makeHop_181 rfl (by decide) (by decide) ?_
        refine ⟨rfl, ?_⟩
        rw [if_pos q26]
        first | rw [show loO lo m q = lo from by rw [loO, if_pos q66]] | rw [show loO lo m q = upd lo (1 - m) (lo (1 - m) + 1) from by rw [loO, if_neg q66]]
        rw [psO, qtO, hqt]
        exact toGm.tr (((((k1.1.tr k2.1).tr k3.1).tr k4.1).tr k6.1).tr k7.1) k8
    · refine r_iconst (v := 1) 71 dX1_makeHop_70 rfl (by decide) ?_
      refine r_goto 75 dX1_makeHop_71 (by decide) ?_
      refine r_istore (ls1 := [_, _, _, _, _, _, _]) 77 dX1_makeHop_75 rfl (by decide) rfl rfl ?_
      refine r_aload_n 78 dX1_makeHop_77 rfl rfl rfl ?_
      refine r_getf 81 dX1_makeHop_78 rfl f_X1_12.r (by repeat (first | assumption | exact isBd.o (by assumption) | exact isHp.o (by assumption) | exact isGm.o (by assumption) | refine gs_eq ?_ | refine gs_ne (by omega) ?_ | exact is_of (by assumption) | refine gs_is ?_)) rfl ?_
      refine r_aload_n 82 dX1_makeHop_81 rfl rfl rfl ?_
      refine r_iload_n 83 dX1_makeHop_82 rfl rfl ?_
      refine r_callV0 86 dX1_makeHop_83 rfl (tX3_from hh0 hq) l_X1_96 mX3_from rfl (by repeat (first | assumption | exact isBd.o (by assumption) | exact isHp.o (by assumption) | exact isGm.o (by assumption) | refine gs_eq ?_ | refine gs_ne (by omega) ?_ | exact is_of (by assumption) | refine gs_is ?_)) rfl (by decide) (Nat.le_of_ble_eq_true rfl) (by decide) (qI ?_)
      refine r_callV0 89 dX1_makeHop_86 rfl (tX0_pAt gb0 hfr) l_X1_99 mX0_pieceAt rfl (by repeat (first | assumption | exact isBd.o (by assumption) | exact isHp.o (by assumption) | exact isGm.o (by assumption) | refine gs_eq ?_ | refine gs_ne (by omega) ?_ | exact is_of (by assumption) | refine gs_is ?_)) rfl (by decide) (Nat.le_of_ble_eq_true rfl) (by decide) (qI ?_)
      refine r_callSN0 92 dX1_makeHop_89 rfl (tX6_isKing) l_X1_102 mX6_isKing rfl (by decide) (Nat.le_of_ble_eq_true rfl) (by decide) (qI ?_)
      refine r_if_eq 104 95 dX1_makeHop_92 (by decide) rfl (fun q92 => ?_) (fun q92 => ?_)
      · refine r_iconst (v := 0) 105 dX1_makeHop_104 rfl (by decide) ?_
        refine r_istore (ls1 := [_, _, _, _, _, _, _]) 107 dX1_makeHop_105 rfl (by decide) rfl rfl ?_
        refine r_iload 109 dX1_makeHop_107 rfl rfl ?_
        refine r_if_eq 125 112 dX1_makeHop_109 (by decide) rfl (fun q109 => absurd q109 (by decide)) (fun q109 => ?_)
        refine r_aload_n 113 dX1_makeHop_112 rfl rfl rfl ?_
        refine r_getf 116 dX1_makeHop_113 rfl f_X1_22.r (by repeat (first | assumption | exact isBd.o (by assumption) | exact isHp.o (by assumption) | exact isGm.o (by assumption) | refine gs_eq ?_ | refine gs_ne (by omega) ?_ | exact is_of (by assumption) | refine gs_is ?_)) rfl ?_
        refine r_iconst (v := nI 1) 117 dX1_makeHop_116 rfl (by decide) ?_
        refine r_iload 119 dX1_makeHop_117 rfl rfl ?_
        refine r_isub 120 dX1_makeHop_119 rfl ?_
        rw [pk_sub (by omega)]
        refine r_dup2 121 dX1_makeHop_120 rfl rfl rfl ?_
        refine r_iald 122 dX1_makeHop_121 rfl (1 - m) (by repeat (first | assumption | exact isBd.o (by assumption) | exact isHp.o (by assumption) | exact isGm.o (by assumption) | refine gs_eq ?_ | refine gs_ne (by omega) ?_ | exact is_of (by assumption) | refine gs_is ?_)) rfl (by omega) (by decide) ?_
        refine r_iconst (v := 1) 123 dX1_makeHop_122 rfl (by decide) ?_
        refine r_iadd 124 dX1_makeHop_123 rfl ?_
        refine r_iast 125 dX1_makeHop_124 rfl (1 - m) (by repeat (first | assumption | exact isBd.o (by assumption) | exact isHp.o (by assumption) | exact isGm.o (by assumption) | refine gs_eq ?_ | refine gs_ne (by omega) ?_ | exact is_of (by assumption) | refine gs_is ?_)) rfl (by omega) (by decide) ?_
        first
          | (have q66 : q.2.2.2.2 = -6 := q67
             have k2 : toGm _ g f n (nI m) jp _ lo ps cs mk qt oc _ := ⟨Fr.rf, k1.2⟩)
          | (have q66 : ¬ q.2.2.2.2 = -6 := q67
             have k2 := k1.2.lo (Fr.st rfl) (gs_eq (is_of u5) (c := aI 2 (upd lo (1 - m) (lo (1 - m) + 1)))))
        have hh2 := hh0.fr k2.1 (fun q a b z => by unfold gS at z; omega)
        have k20 := k2.2.1
        have k21 := k2.2.2.1
        refine r_aload_n 126 dX1_makeHop_125 rfl rfl rfl ?_
        refine r_getf 129 dX1_makeHop_126 rfl f_X1_12.r (by repeat (first | assumption | exact isBd.o (by assumption) | exact isHp.o (by assumption) | exact isGm.o (by assumption) | refine gs_eq ?_ | refine gs_ne (by omega) ?_ | exact is_of (by assumption) | refine gs_is ?_)) rfl ?_
        refine r_aload_n 130 dX1_makeHop_129 rfl rfl rfl ?_
        refine r_iload_n 131 dX1_makeHop_130 rfl rfl ?_
        refine r_callV0 134 dX1_makeHop_131 rfl (tX0_make k2.2.2.1 hh2 (by unfold apH; omega) hq hto hfr) l_X1_105 mX0_make rfl (by repeat (first | assumption | exact isBd.o (by assumption) | exact isHp.o (by assumption) | exact isGm.o (by assumption) | refine gs_eq ?_ | refine gs_ne (by omega) ?_ | exact is_of (by assumption) | refine gs_is ?_)) rfl (by decide) (Nat.le_of_ble_eq_true rfl) (by decide) (qN fun w3 h3 => ?_)
        have k3 := k2.2.bd h3
        have k30 := k3.2.1
        refine r_aload_n 135 dX1_makeHop_134 rfl rfl rfl ?_
        refine r_dup 136 dX1_makeHop_135 rfl rfl ?_
        refine r_getf 139 dX1_makeHop_136 rfl f_X1_36.r (by repeat (first | assumption | exact isBd.o (by assumption) | exact isHp.o (by assumption) | exact isGm.o (by assumption) | refine gs_eq ?_ | refine gs_ne (by omega) ?_ | exact is_of (by assumption) | refine gs_is ?_)) rfl ?_
        refine r_iconst (v := 1) 140 dX1_makeHop_139 rfl (by decide) ?_
        refine r_iadd 141 dX1_makeHop_140 rfl ?_
        refine r_putf (fs1 := [_, _, _, _, _, _, _, _, _]) 144 dX1_makeHop_141 rfl f_X1_36 (by repeat (first | assumption | exact isBd.o (by assumption) | exact isHp.o (by assumption) | exact isGm.o (by assumption) | refine gs_eq ?_ | refine gs_ne (by omega) ?_ | exact is_of (by assumption) | refine gs_is ?_)) rfl (by simp only [List.length_cons, List.length_nil]; omega) rfl ?_
        have k4 := k3.2.setO (cs1 := cs) (mk1 := mk + 1) (qt1 := qt) (oc1 := oc)
        have k40 := k4.2.1
        refine r_aload_n 145 dX1_makeHop_144 rfl rfl rfl ?_
        refine r_iload 147 dX1_makeHop_145 rfl rfl ?_
        refine r_if_eq 159 150 dX1_makeHop_147 (by decide) rfl (fun q147 => ?_) (fun q147 => absurd q147 (by decide))
        refine r_iconst (v := 0) 160 dX1_makeHop_159 rfl (by decide) ?_
        refine r_putf (fs1 := [_, _, _, _, _, _, _, _, _]) 163 dX1_makeHop_160 rfl f_X1_39 (by repeat (first | assumption | exact isBd.o (by assumption) | exact isHp.o (by assumption) | exact isGm.o (by assumption) | refine gs_eq ?_ | refine gs_ne (by omega) ?_ | exact is_of (by assumption) | refine gs_is ?_)) rfl (by simp only [List.length_cons, List.length_nil]; omega) rfl ?_
        refine r_iload 165 dX1_makeHop_163 rfl rfl ?_
        refine r_if_ne 173 168 dX1_makeHop_165 (by decide) rfl (fun q165 => absurd q165 (by decide)) (fun q165 => ?_)
        refine r_aload_n 169 dX1_makeHop_168 rfl rfl rfl ?_
        refine r_iconst (v := 0) 170 dX1_makeHop_169 rfl (by decide) ?_
        refine r_putf (fs1 := [_, _, _, _, _, _, _, _, _]) 173 dX1_makeHop_170 rfl f_X1_29 (by repeat (first | assumption | exact isBd.o (by assumption) | exact isHp.o (by assumption) | exact isGm.o (by assumption) | refine gs_eq ?_ | refine gs_ne (by omega) ?_ | exact is_of (by assumption) | refine gs_is ?_)) rfl (by simp only [List.length_cons, List.length_nil]; omega) rfl ?_
        first
          | (have hqt := qt_1 q92 q66
             have K60 := hps hqt
             have k6 := k4.2.setO (cs1 := cs) (mk1 := mk + 1) (qt1 := qt + 1) (oc1 := oc))
          | (first
             | have hqt := qt_2 (f := f) q66
             | have hqt := qt_3 (f := f) (q := q) q92
             have k5 := k4.2.setO (cs1 := cs) (mk1 := mk + 1) (qt1 := 0) (oc1 := oc)
             have k5b := k5.2.setP
             have K60 : ([] : List T3).length < 61 := by decide
             have k6 : toGm _ g _ _ _ _ _ _ [] cs (mk + 1) 0 oc _ := ⟨k5.1.tr k5b.1, k5b.2⟩)
        have k60 := k6.2.1
        refine r_aload_n 174 dX1_makeHop_173 rfl rfl rfl ?_
        refine r_callV0 177 dX1_makeHop_174 rfl (tX1_keepPosition k6.2 K60) l_X1_74 mX1_keepPosition rfl (by repeat (first | assumption | exact isBd.o (by assumption) | exact isHp.o (by assumption) | exact isGm.o (by assumption) | refine gs_eq ?_ | refine gs_ne (by omega) ?_ | exact is_of (by assumption) | refine gs_is ?_)) rfl (by decide) (Nat.le_of_ble_eq_true rfl) (by decide) (qN fun w4 k7 => ?_)
        have k70 := k7.2.1
        refine r_aload_n 178 dX1_makeHop_177 rfl rfl rfl ?_
        refine r_callV0 181 dX1_makeHop_178 rfl (tX1_judge k7.2) l_X1_77 mX1_judge rfl (by repeat (first | assumption | exact isBd.o (by assumption) | exact isHp.o (by assumption) | exact isGm.o (by assumption) | refine gs_eq ?_ | refine gs_ne (by omega) ?_ | exact is_of (by assumption) | refine gs_is ?_)) rfl (by decide) (Nat.le_of_ble_eq_true rfl) (by decide) (qN fun w5 k8 => ?_)
        refine r_vret dX1_makeHop_181 rfl (by decide) (by decide) ?_
        refine ⟨rfl, ?_⟩
        rw [if_pos q26]
        first | rw [show loO lo m q = lo from by rw [loO, if_pos q66]] | rw [show loO lo m q = upd lo (1 - m) (lo (1 - m) + 1) from by rw [loO, if_neg q66]]
        rw [psO, qtO, hqt]
        exact toGm.tr (((((k1.1.tr k2.1).tr k3.1).tr k4.1).tr k6.1).tr k7.1) k8
      · refine r_iload 97 dX1_makeHop_95 rfl rfl ?_
        refine r_if_ne 104 100 dX1_makeHop_97 (by decide) rfl (fun q97 => ?_) (fun q97 => absurd q97 (by decide))
        refine r_iconst (v := 0) 105 dX1_makeHop_104 rfl (by decide) ?_
        refine r_istore (ls1 := [_, _, _, _, _, _, _]) 107 dX1_makeHop_105 rfl (by decide) rfl rfl ?_
        refine r_iload 109 dX1_makeHop_107 rfl rfl ?_
        refine r_if_eq 125 112 dX1_makeHop_109 (by decide) rfl (fun q109 => absurd q109 (by decide)) (fun q109 => ?_)
        refine r_aload_n 113 dX1_makeHop_112 rfl rfl rfl ?_
        refine r_getf 116 dX1_makeHop_113 rfl f_X1_22.r (by repeat (first | assumption | exact isBd.o (by assumption) | exact isHp.o (by assumption) | exact isGm.o (by assumption) | refine gs_eq ?_ | refine gs_ne (by omega) ?_ | exact is_of (by assumption) | refine gs_is ?_)) rfl ?_
        refine r_iconst (v := nI 1) 117 dX1_makeHop_116 rfl (by decide) ?_
        refine r_iload 119 dX1_makeHop_117 rfl rfl ?_
        refine r_isub 120 dX1_makeHop_119 rfl ?_
        rw [pk_sub (by omega)]
        refine r_dup2 121 dX1_makeHop_120 rfl rfl rfl ?_
        refine r_iald 122 dX1_makeHop_121 rfl (1 - m) (by repeat (first | assumption | exact isBd.o (by assumption) | exact isHp.o (by assumption) | exact isGm.o (by assumption) | refine gs_eq ?_ | refine gs_ne (by omega) ?_ | exact is_of (by assumption) | refine gs_is ?_)) rfl (by omega) (by decide) ?_
        refine r_iconst (v := 1) 123 dX1_makeHop_122 rfl (by decide) ?_
        refine r_iadd 124 dX1_makeHop_123 rfl ?_
        refine r_iast 125 dX1_makeHop_124 rfl (1 - m) (by repeat (first | assumption | exact isBd.o (by assumption) | exact isHp.o (by assumption) | exact isGm.o (by assumption) | refine gs_eq ?_ | refine gs_ne (by omega) ?_ | exact is_of (by assumption) | refine gs_is ?_)) rfl (by omega) (by decide) ?_
        first
          | (have q66 : q.2.2.2.2 = -6 := q67
             have k2 : toGm _ g f n (nI m) jp _ lo ps cs mk qt oc _ := ⟨Fr.rf, k1.2⟩)
          | (have q66 : ¬ q.2.2.2.2 = -6 := q67
             have k2 := k1.2.lo (Fr.st rfl) (gs_eq (is_of u5) (c := aI 2 (upd lo (1 - m) (lo (1 - m) + 1)))))
        have hh2 := hh0.fr k2.1 (fun q a b z => by unfold gS at z; omega)
        have k20 := k2.2.1
        have k21 := k2.2.2.1
        refine r_aload_n 126 dX1_makeHop_125 rfl rfl rfl ?_
        refine r_getf 129 dX1_makeHop_126 rfl f_X1_12.r (by repeat (first | assumption | exact isBd.o (by assumption) | exact isHp.o (by assumption) | exact isGm.o (by assumption) | refine gs_eq ?_ | refine gs_ne (by omega) ?_ | exact is_of (by assumption) | refine gs_is ?_)) rfl ?_
        refine r_aload_n 130 dX1_makeHop_129 rfl rfl rfl ?_
        refine r_iload_n 131 dX1_makeHop_130 rfl rfl ?_
        refine r_callV0 134 dX1_makeHop_131 rfl (tX0_make k2.2.2.1 hh2 (by unfold apH; omega) hq hto hfr) l_X1_105 mX0_make rfl (by repeat (first | assumption | exact isBd.o (by assumption) | exact isHp.o (by assumption) | exact isGm.o (by assumption) | refine gs_eq ?_ | refine gs_ne (by omega) ?_ | exact is_of (by assumption) | refine gs_is ?_)) rfl (by decide) (Nat.le_of_ble_eq_true rfl) (by decide) (qN fun w3 h3 => ?_)
        have k3 := k2.2.bd h3
        have k30 := k3.2.1
        refine r_aload_n 135 dX1_makeHop_134 rfl rfl rfl ?_
        refine r_dup 136 dX1_makeHop_135 rfl rfl ?_
        refine r_getf 139 dX1_makeHop_136 rfl f_X1_36.r (by repeat (first | assumption | exact isBd.o (by assumption) | exact isHp.o (by assumption) | exact isGm.o (by assumption) | refine gs_eq ?_ | refine gs_ne (by omega) ?_ | exact is_of (by assumption) | refine gs_is ?_)) rfl ?_
        refine r_iconst (v := 1) 140 dX1_makeHop_139 rfl (by decide) ?_
        refine r_iadd 141 dX1_makeHop_140 rfl ?_
        refine r_putf (fs1 := [_, _, _, _, _, _, _, _, _]) 144 dX1_makeHop_141 rfl f_X1_36 (by repeat (first | assumption | exact isBd.o (by assumption) | exact isHp.o (by assumption) | exact isGm.o (by assumption) | refine gs_eq ?_ | refine gs_ne (by omega) ?_ | exact is_of (by assumption) | refine gs_is ?_)) rfl (by simp only [List.length_cons, List.length_nil]; omega) rfl ?_
        have k4 := k3.2.setO (cs1 := cs) (mk1 := mk + 1) (qt1 := qt) (oc1 := oc)
        have k40 := k4.2.1
        refine r_aload_n 145 dX1_makeHop_144 rfl rfl rfl ?_
        refine r_iload 147 dX1_makeHop_145 rfl rfl ?_
        refine r_if_eq 159 150 dX1_makeHop_147 (by decide) rfl (fun q147 => ?_) (fun q147 => absurd q147 (by decide))
        refine r_iconst (v := 0) 160 dX1_makeHop_159 rfl (by decide) ?_
        refine r_putf (fs1 := [_, _, _, _, _, _, _, _, _]) 163 dX1_makeHop_160 rfl f_X1_39 (by repeat (first | assumption | exact isBd.o (by assumption) | exact isHp.o (by assumption) | exact isGm.o (by assumption) | refine gs_eq ?_ | refine gs_ne (by omega) ?_ | exact is_of (by assumption) | refine gs_is ?_)) rfl (by simp only [List.length_cons, List.length_nil]; omega) rfl ?_
        refine r_iload 165 dX1_makeHop_163 rfl rfl ?_
        refine r_if_ne 173 168 dX1_makeHop_165 (by decide) rfl (fun q165 => absurd q165 (by decide)) (fun q165 => ?_)
        refine r_aload_n 169 dX1_makeHop_168 rfl rfl rfl ?_
        refine r_iconst (v := 0) 170 dX1_makeHop_169 rfl (by decide) ?_
        refine r_putf (fs1 := [_, _, _, _, _, _, _, _, _]) 173 dX1_makeHop_170 rfl f_X1_29 (by repeat (first | assumption | exact isBd.o (by assumption) | exact isHp.o (by assumption) | exact isGm.o (by assumption) | refine gs_eq ?_ | refine gs_ne (by omega) ?_ | exact is_of (by assumption) | refine gs_is ?_)) rfl (by simp only [List.length_cons, List.length_nil]; omega) rfl ?_
        first
          | (have hqt := qt_1 q92 q66
             have K60 := hps hqt
             have k6 := k4.2.setO (cs1 := cs) (mk1 := mk + 1) (qt1 := qt + 1) (oc1 := oc))
          | (first
             | have hqt := qt_2 (f := f) q66
             | have hqt := qt_3 (f := f) (q := q) q92
             have k5 := k4.2.setO (cs1 := cs) (mk1 := mk + 1) (qt1 := 0) (oc1 := oc)
             have k5b := k5.2.setP
             have K60 : ([] : List T3).length < 61 := by decide
             have k6 : toGm _ g _ _ _ _ _ _ [] cs (mk + 1) 0 oc _ := ⟨k5.1.tr k5b.1, k5b.2⟩)
        have k60 := k6.2.1
        refine r_aload_n 174 dX1_makeHop_173 rfl rfl rfl ?_
        refine r_callV0 177 dX1_makeHop_174 rfl (tX1_keepPosition k6.2 K60) l_X1_74 mX1_keepPosition rfl (by repeat (first | assumption | exact isBd.o (by assumption) | exact isHp.o (by assumption) | exact isGm.o (by assumption) | refine gs_eq ?_ | refine gs_ne (by omega) ?_ | exact is_of (by assumption) | refine gs_is ?_)) rfl (by decide) (Nat.le_of_ble_eq_true rfl) (by decide) (qN fun w4 k7 => ?_)
        have k70 := k7.2.1
        refine r_aload_n 178 dX1_makeHop_177 rfl rfl rfl ?_
        refine r_callV0 181 dX1_makeHop_178 rfl (tX1_judge k7.2) l_X1_77 mX1_judge rfl (by repeat (first | assumption | exact isBd.o (by assumption) | exact isHp.o (by assumption) | exact isGm.o (by assumption) | refine gs_eq ?_ | refine gs_ne (by omega) ?_ | exact is_of (by assumption) | refine gs_is ?_)) rfl (by decide) (Nat.le_of_ble_eq_true rfl) (by decide) (qN fun w5 k8 => ?_)
        refine r_vret dX1_makeHop_181 rfl (by decide) (by decide) ?_
        refine ⟨rfl, ?_⟩
        rw [if_pos q26]
        first | rw [show loO lo m q = lo from by rw [loO, if_pos q66]] | rw [show loO lo m q = upd lo (1 - m) (lo (1 - m) + 1) from by rw [loO, if_neg q66]]
        rw [psO, qtO, hqt]
        exact toGm.tr (((((k1.1.tr k2.1).tr k3.1).tr k4.1).tr k6.1).tr k7.1) k8
  · refine r_aload_n 30 dX1_makeHop_29 rfl rfl rfl ?_
    refine r_getf 33 dX1_makeHop_30 rfl f_X1_18.r (by repeat (first | assumption | exact isBd.o (by assumption) | exact isHp.o (by assumption) | exact isGm.o (by assumption) | refine gs_eq ?_ | refine gs_ne (by omega) ?_ | exact is_of (by assumption) | refine gs_is ?_)) rfl ?_
    refine r_iload 35 dX1_makeHop_33 rfl rfl ?_
    refine r_iconst (v := 0) 36 dX1_makeHop_35 rfl (by decide) ?_
    refine r_iast 37 dX1_makeHop_36 rfl (m) (by repeat (first | assumption | exact isBd.o (by assumption) | exact isHp.o (by assumption) | exact isGm.o (by assumption) | refine gs_eq ?_ | refine gs_ne (by omega) ?_ | exact is_of (by assumption) | refine gs_is ?_)) rfl hm (by decide) ?_
    have k1 := hg.cl (Fr.st rfl) (gs_eq (is_of g4) (c := aI 2 (upd cl m 0)))
    have k10 := k1.2.1
    refine r_aload_n 38 dX1_makeHop_37 rfl rfl rfl ?_
    refine r_iconst (v := nI 1) 39 dX1_makeHop_38 rfl (by decide) ?_
    refine r_iload 41 dX1_makeHop_39 rfl rfl ?_
    refine r_isub 42 dX1_makeHop_41 rfl ?_
    rw [pk_sub (by omega)]
    refine r_callSN0 45 dX1_makeHop_42 rfl (tX6_wonBy) l_X1_87 mX6_wonBy rfl (by decide) (Nat.le_of_ble_eq_true rfl) (by decide) (qI ?_)
    refine r_putf (fs1 := [_, _, _, _, _, _, _, _, _]) 48 dX1_makeHop_45 rfl f_X1_42 (by repeat (first | assumption | exact isBd.o (by assumption) | exact isHp.o (by assumption) | exact isGm.o (by assumption) | refine gs_eq ?_ | refine gs_ne (by omega) ?_ | exact is_of (by assumption) | refine gs_is ?_)) rfl (by simp only [List.length_cons, List.length_nil]; omega) rfl ?_
    refine r_vret dX1_makeHop_48 rfl (by decide) (by decide) ?_
    exact ⟨rfl, by rw [if_neg q26]; exact toGm.tr k1.1 k1.2.setO⟩

