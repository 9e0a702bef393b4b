/-! ===== the calls: games, texts, undo ===== -/
set_option maxRecDepth 100000 in
theorem tX6_clock {Γ : CT} {w : PW} {f n : Nat → Int32} {mv jp : Int32} {cl lo : Nat → Int32} {ps : List T3} {cs mk qt oc : Int32} {H : List GS} {S : Nat → Option GS} {pf : Nat → Int32} {pn : Nat} {s : Int32} (hr : isRD w (f, n, mv, jp, cl, lo, ps, cs, mk, qt, oc) H S pf pn) : Cl Γ yX6_clock XX6_clock 7 7 252 [.ref 0, .int s] w (if 10 ≤ s ∧ s ≤ 9999 then rP cs (toRD w (f, n, mv, jp, cl, lo, ps, s, mk, qt, oc) (keepL H (f, n, mv, jp, cl, lo, ps, cs, mk, qt, oc)) S pf pn) else rI (-2) w) := by
  refine Cl.of (ls := [some (.ref 0), some (.int s), none]) rfl (by decide +kernel) (fun h => by cases h) (Nat.le_of_ble_eq_true rfl) rfl ?_
  obtain ⟨⟨r0, r13, r14, r15⟩, rg, ⟨st, sl, r8, r9, r10, rH, rp, rS, rk⟩, rd, rs⟩ := id hr
  have rG : isGm w 1 f n mv jp cl lo ps cs mk qt oc := rg
  obtain ⟨g1, gb, g5, g6, gl, pfG, gO, g7⟩ := id rG
  have gb0 := gb.1
  have rd0 := rd.1
  refine r_iload_n 1 dX6_clock_0 rfl rfl ?_
  refine r_bipush (v := 10) 3 dX6_clock_1 rfl (by decide) ?_
  refine r_icmp_lt 13 6 dX6_clock_3 (by decide) rfl (fun q3 => ?_) (fun q3 => ?_)
  · refine r_bipush (v := (-2)) 15 dX6_clock_13 rfl (by decide) ?_
    refine r_iret dX6_clock_15 rfl (by decide) (by decide) ?_
    rw [if_neg (by first | exact (fun z => Int32.not_lt.mpr z.1 q3) | exact (fun z => q10 z.2))]
    exact ⟨rfl, rfl⟩
  · refine r_iload_n 7 dX6_clock_6 rfl rfl ?_
    refine r_sipush (v := 9999) 10 dX6_clock_7 rfl (by decide) ?_
    refine r_icmp_le 16 13 dX6_clock_10 (by decide) rfl (fun q10 => ?_) (fun q10 => ?_)
    · refine r_aload_n 17 dX6_clock_16 rfl rfl rfl ?_
      refine r_getf 20 dX6_clock_17 rfl f_X6_19.r (by repeat (first | assumption | exact isBd.o (by assumption) | exact isHp.o (by assumption) | exact isGm.o (by assumption) | exact isPd.o (by assumption) | refine gs_eq ?_ | refine gs_ne (by omega) ?_ | exact is_of (by assumption) | refine gs_is ?_)) rfl ?_
      refine r_aload_n 21 dX6_clock_20 rfl rfl rfl ?_
      refine r_getf 24 dX6_clock_21 rfl f_X6_10.r (by repeat (first | assumption | exact isBd.o (by assumption) | exact isHp.o (by assumption) | exact isGm.o (by assumption) | exact isPd.o (by assumption) | refine gs_eq ?_ | refine gs_ne (by omega) ?_ | exact is_of (by assumption) | refine gs_is ?_)) rfl ?_
      refine r_callV 27 dX6_clock_24 rfl (tKeep hr) l_X6_47 mX2_keep rfl (by repeat (first | assumption | exact isBd.o (by assumption) | exact isHp.o (by assumption) | exact isGm.o (by assumption) | exact isPd.o (by assumption) | refine gs_eq ?_ | refine gs_ne (by omega) ?_ | exact is_of (by assumption) | refine gs_is ?_)) rfl (by decide) (Nat.le_of_ble_eq_true rfl) (by decide) (qN fun w1 hk1 => ?_)
      obtain ⟨⟨hr1, hM1⟩, hF1⟩ := hk1
      obtain ⟨⟨r01, r131, r141, r151⟩, rg1, ⟨st1, sl1, r81, r91, r101, rH1, rp1, rS1, rk1⟩, rd1, rs1⟩ := id hr1
      have rG1 : isGm w1 1 f n mv jp cl lo ps cs mk qt oc := rg1
      obtain ⟨g11, gb1, g51, g61, gl1, pfG1, gO1, g71⟩ := id rG1
      have gb01 := gb1.1
      have rd01 := rd1.1
      refine r_aload_n 28 dX6_clock_27 rfl rfl rfl ?_
      refine r_getf 31 dX6_clock_28 rfl f_X6_10.r (by repeat (first | assumption | exact isBd.o (by assumption) | exact isHp.o (by assumption) | exact isGm.o (by assumption) | exact isPd.o (by assumption) | refine gs_eq ?_ | refine gs_ne (by omega) ?_ | exact is_of (by assumption) | refine gs_is ?_)) rfl ?_
      refine r_getf 34 dX6_clock_31 rfl f_X6_51.r (by repeat (first | assumption | exact isBd.o (by assumption) | exact isHp.o (by assumption) | exact isGm.o (by assumption) | exact isPd.o (by assumption) | refine gs_eq ?_ | refine gs_ne (by omega) ?_ | exact is_of (by assumption) | refine gs_is ?_)) rfl ?_
      refine r_istore_n (ls1 := [_, _, _]) 35 dX6_clock_34 rfl (by decide) rfl rfl ?_
      refine r_aload_n 36 dX6_clock_35 rfl rfl rfl ?_
      refine r_getf 39 dX6_clock_36 rfl f_X6_10.r (by repeat (first | assumption | exact isBd.o (by assumption) | exact isHp.o (by assumption) | exact isGm.o (by assumption) | exact isPd.o (by assumption) | refine gs_eq ?_ | refine gs_ne (by omega) ?_ | exact is_of (by assumption) | refine gs_is ?_)) rfl ?_
      refine r_iload_n 40 dX6_clock_39 rfl rfl ?_
      refine r_putf (fs1 := [_, _, _, _, _, _, _, _, _]) 43 dX6_clock_40 rfl f_X6_51 (by repeat (first | assumption | exact isBd.o (by assumption) | exact isHp.o (by assumption) | exact isGm.o (by assumption) | exact isPd.o (by assumption) | refine gs_eq ?_ | refine gs_ne (by omega) ?_ | exact is_of (by assumption) | refine gs_is ?_)) rfl (by simp only [List.length_cons, List.length_nil]; omega) rfl ?_
      refine r_iload_n 44 dX6_clock_43 rfl rfl ?_
      refine r_iret dX6_clock_44 rfl (by decide) (by decide) ?_
      rw [if_pos ⟨Int32.not_lt.mp q3, q10⟩]
      have k2 := rG1.setO (cs1 := s) (mk1 := mk) (qt1 := qt) (oc1 := oc)
      exact ⟨rfl, toRD.tr ⟨hr1, hM1⟩ (hr1.game k2.1 k2.2)⟩
    · refine r_bipush (v := (-2)) 15 dX6_clock_13 rfl (by decide) ?_
      refine r_iret dX6_clock_15 rfl (by decide) (by decide) ?_
      rw [if_neg (by first | exact (fun z => Int32.not_lt.mpr z.1 q3) | exact (fun z => q10 z.2))]
      exact ⟨rfl, rfl⟩

set_option maxRecDepth 100000 in
theorem tX6_begin {Γ : CT} {w : PW} {f n : Nat → Int32} {mv jp : Int32} {cl lo : Nat → Int32} {ps : List T3} {cs mk qt oc : Int32} {H : List GS} {S : Nat → Option GS} {pf : Nat → Int32} {pn : Nat} {e : Bool} {F N : Nat → Int32} (hr : isRD w (f, n, mv, jp, cl, lo, ps, cs, mk, qt, oc) H S pf pn) (hFN : bgFN e F N) : Cl Γ yX6_begin XX6_begin 7 7 252 [.ref 0, .int (bI e)] w (rP (menO N 0 + kngO N 0 + (menO N 1 + kngO N 1)) (toRD w (F, N, 0, -6, (fun _ => cs), (fun _ => 0), [t3O F 0 (-6)], cs, 0, 0, judO F 0 [t3O F 0 (-6)] 0) (keepL H (f, n, mv, jp, cl, lo, ps, cs, mk, qt, oc)) S pf pn)) := by
  refine Cl.of (ls := [some (.ref 0), some (.int (bI e))]) rfl (by decide +kernel) (fun h => by cases h) (Nat.le_of_ble_eq_true rfl) rfl ?_
  obtain ⟨⟨r0, r13, r14, r15⟩, rg, ⟨st, sl, r8, r9, r10, rH, rp, rS, rk⟩, rd, rs⟩ := id hr
  have rG : isGm w 1 f n mv jp cl lo ps cs mk qt oc := rg
  obtain ⟨g1, gb, g5, g6, gl, pfG, gO, g7⟩ := id rG
  have gb0 := gb.1
  have rd0 := rd.1
  refine r_aload_n 1 dX6_begin_0 rfl rfl rfl ?_
  refine r_getf 4 dX6_begin_1 rfl f_X6_19.r (by repeat (first | assumption | exact isBd.o (by assumption) | exact isHp.o (by assumption) | exact isGm.o (by assumption) | exact isPd.o (by assumption) | refine gs_eq ?_ | refine gs_ne (by omega) ?_ | exact is_of (by assumption) | refine gs_is ?_)) rfl ?_
  refine r_aload_n 5 dX6_begin_4 rfl rfl rfl ?_
  refine r_getf 8 dX6_begin_5 rfl f_X6_10.r (by repeat (first | assumption | exact isBd.o (by assumption) | exact isHp.o (by assumption) | exact isGm.o (by assumption) | exact isPd.o (by assumption) | refine gs_eq ?_ | refine gs_ne (by omega) ?_ | exact is_of (by assumption) | refine gs_is ?_)) rfl ?_
  refine r_callV 11 dX6_begin_8 rfl (tKeep hr) l_X6_47 mX2_keep rfl (by repeat (first | assumption | exact isBd.o (by assumption) | exact isHp.o (by assumption) | exact isGm.o (by assumption) | exact isPd.o (by assumption) | refine gs_eq ?_ | refine gs_ne (by omega) ?_ | exact is_of (by assumption) | refine gs_is ?_)) rfl (by decide) (Nat.le_of_ble_eq_true rfl) (by decide) (qN fun w1 hk1 => ?_)
  obtain ⟨⟨hr1, hM1⟩, hF1⟩ := hk1
  obtain ⟨⟨r01, r131, r141, r151⟩, rg1, ⟨st1, sl1, r81, r91, r101, rH1, rp1, rS1, rk1⟩, rd1, rs1⟩ := id hr1
  have rG1 : isGm w1 1 f n mv jp cl lo ps cs mk qt oc := rg1
  obtain ⟨g11, gb1, g51, g61, gl1, pfG1, gO1, g71⟩ := id rG1
  have gb01 := gb1.1
  have rd01 := rd1.1
  refine r_aload_n 12 dX6_begin_11 rfl rfl rfl ?_
  refine r_getf 15 dX6_begin_12 rfl f_X6_10.r (by repeat (first | assumption | exact isBd.o (by assumption) | exact isHp.o (by assumption) | exact isGm.o (by assumption) | exact isPd.o (by assumption) | refine gs_eq ?_ | refine gs_ne (by omega) ?_ | exact is_of (by assumption) | refine gs_is ?_)) rfl ?_
  refine r_iload_n 16 dX6_begin_15 rfl rfl ?_
  refine r_callV0 19 dX6_begin_16 rfl (tX1_start rG1 hFN) l_X6_43 mX1_start rfl (by repeat (first | assumption | exact isBd.o (by assumption) | exact isHp.o (by assumption) | exact isGm.o (by assumption) | exact isPd.o (by assumption) | refine gs_eq ?_ | refine gs_ne (by omega) ?_ | exact is_of (by assumption) | refine gs_is ?_)) rfl (by decide) (Nat.le_of_ble_eq_true rfl) (by decide) (qN fun w2 k2 => ?_)
  have e0 := (k2.1.2 0 (by unfold gS; omega)).trans r01
  have e1 := k2.2.1
  have e2 := k2.2.2.1
  refine r_aload_n 20 dX6_begin_19 rfl rfl rfl ?_
  refine r_getf 23 dX6_begin_20 rfl f_X6_10.r (by repeat (first | assumption | exact isBd.o (by assumption) | exact isHp.o (by assumption) | exact isGm.o (by assumption) | exact isPd.o (by assumption) | refine gs_eq ?_ | refine gs_ne (by omega) ?_ | exact is_of (by assumption) | refine gs_is ?_)) rfl ?_
  refine r_getf 26 dX6_begin_23 rfl f_X6_55 (by repeat (first | assumption | exact isBd.o (by assumption) | exact isHp.o (by assumption) | exact isGm.o (by assumption) | exact isPd.o (by assumption) | refine gs_eq ?_ | refine gs_ne (by omega) ?_ | exact is_of (by assumption) | refine gs_is ?_)) rfl ?_
  refine r_iconst (v := 0) 27 dX6_begin_26 rfl (by decide) ?_
  refine r_callV0 30 dX6_begin_27 rfl (tX0_piecesOf k2.2.2.1) l_X6_59 mX0_piecesOf rfl (by repeat (first | assumption | exact isBd.o (by assumption) | exact isHp.o (by assumption) | exact isGm.o (by assumption) | exact isPd.o (by assumption) | refine gs_eq ?_ | refine gs_ne (by omega) ?_ | exact is_of (by assumption) | refine gs_is ?_)) rfl (by decide) (Nat.le_of_ble_eq_true rfl) (by decide) (qI ?_)
  refine r_aload_n 31 dX6_begin_30 rfl rfl rfl ?_
  refine r_getf 34 dX6_begin_31 rfl f_X6_10.r (by repeat (first | assumption | exact isBd.o (by assumption) | exact isHp.o (by assumption) | exact isGm.o (by assumption) | exact isPd.o (by assumption) | refine gs_eq ?_ | refine gs_ne (by omega) ?_ | exact is_of (by assumption) | refine gs_is ?_)) rfl ?_
  refine r_getf 37 dX6_begin_34 rfl f_X6_55 (by repeat (first | assumption | exact isBd.o (by assumption) | exact isHp.o (by assumption) | exact isGm.o (by assumption) | exact isPd.o (by assumption) | refine gs_eq ?_ | refine gs_ne (by omega) ?_ | exact is_of (by assumption) | refine gs_is ?_)) rfl ?_
  refine r_iconst (v := 1) 38 dX6_begin_37 rfl (by decide) ?_
  refine r_callV0 41 dX6_begin_38 rfl (tX0_piecesOf k2.2.2.1) l_X6_59 mX0_piecesOf rfl (by repeat (first | assumption | exact isBd.o (by assumption) | exact isHp.o (by assumption) | exact isGm.o (by assumption) | exact isPd.o (by assumption) | refine gs_eq ?_ | refine gs_ne (by omega) ?_ | exact is_of (by assumption) | refine gs_is ?_)) rfl (by decide) (Nat.le_of_ble_eq_true rfl) (by decide) (qI ?_)
  refine r_iadd 42 dX6_begin_41 rfl ?_
  refine r_iret dX6_begin_42 rfl (by decide) (by decide) ?_
  exact ⟨rfl, toRD.tr ⟨hr1, hM1⟩ (hr1.game k2.1 k2.2)⟩

def otm (n : Nat → Int32) (p v : Int32) : Bool := if p = -6 ∨ sdO p = sdO v then false else decide (16 ≤ menO n (sdO p) + kngO n (sdO p))
set_option maxRecDepth 100000 in
theorem tX6_isOneTooMany {Γ : CT} {w : PW} {f n : Nat → Int32} {mv jp : Int32} {cl lo : Nat → Int32} {ps : List T3} {cs mk qt oc : Int32} {H : List GS} {S : Nat → Option GS} {pf : Nat → Int32} {pn : Nat} {p v : Int32} (hr : isRD w (f, n, mv, jp, cl, lo, ps, cs, mk, qt, oc) H S pf pn) : Cl Γ yX6_isOneTooMany XX6_isOneTooMany 3 0 0 [.ref 0, .int p, .int v] w (rI (bI (otm n p v)) w) := by
  refine Cl.of (ls := [some (.ref 0), some (.int p), some (.int v)]) rfl (by decide +kernel) (fun h => by cases h) (Nat.le_of_ble_eq_true rfl) rfl ?_
  obtain ⟨⟨r0, r13, r14, r15⟩, rg, ⟨st, sl, r8, r9, r10, rH, rp, rS, rk⟩, rd, rs⟩ := id hr
  have rG : isGm w 1 f n mv jp cl lo ps cs mk qt oc := rg
  obtain ⟨g1, gb, g5, g6, gl, pfG, gO, g7⟩ := id rG
  have gb0 := gb.1
  have rd0 := rd.1
  refine r_iload_n 1 dX6_isOneTooMany_0 rfl rfl ?_
  refine r_bipush (v := (-6)) 3 dX6_isOneTooMany_1 rfl (by decide) ?_
  refine r_icmp_eq 17 6 dX6_isOneTooMany_3 (by decide) rfl (fun q3 => ?_) (fun q3 => ?_)
  · refine r_iconst (v := 0) 18 dX6_isOneTooMany_17 rfl (by decide) ?_
    refine r_bret dX6_isOneTooMany_18 rfl (by first | exact Or.inl rfl | exact Or.inr rfl) (by decide) (by decide) ?_
    first | exact ⟨by rw [otm, if_pos (Or.inl q3)]; rfl, rfl⟩ | exact ⟨by rw [otm, if_pos (Or.inr q14)]; rfl, rfl⟩
  · refine r_iload_n 7 dX6_isOneTooMany_6 rfl rfl ?_
    refine r_callS0 10 dX6_isOneTooMany_7 rfl (tX6_sideOf) l_X6_243 mX6_sideOf rfl (by decide) (Nat.le_of_ble_eq_true rfl) (by decide) (qI ?_)
    refine r_iload_n 11 dX6_isOneTooMany_10 rfl rfl ?_
    refine r_callS0 14 dX6_isOneTooMany_11 rfl (tX6_sideOf) l_X6_243 mX6_sideOf rfl (by decide) (Nat.le_of_ble_eq_true rfl) (by decide) (qI ?_)
    refine r_icmp_ne 19 17 dX6_isOneTooMany_14 (by decide) rfl (fun q14 => ?_) (fun q14 => ?_)
    · refine r_aload_n 20 dX6_isOneTooMany_19 rfl rfl rfl ?_
      refine r_getf 23 dX6_isOneTooMany_20 rfl f_X6_10.r (by repeat (first | assumption | exact isBd.o (by assumption) | exact isHp.o (by assumption) | exact isGm.o (by assumption) | exact isPd.o (by assumption) | refine gs_eq ?_ | refine gs_ne (by omega) ?_ | exact is_of (by assumption) | refine gs_is ?_)) rfl ?_
      refine r_getf 26 dX6_isOneTooMany_23 rfl f_X6_55 (by repeat (first | assumption | exact isBd.o (by assumption) | exact isHp.o (by assumption) | exact isGm.o (by assumption) | exact isPd.o (by assumption) | refine gs_eq ?_ | refine gs_ne (by omega) ?_ | exact is_of (by assumption) | refine gs_is ?_)) rfl ?_
      refine r_iload_n 27 dX6_isOneTooMany_26 rfl rfl ?_
      refine r_callS0 30 dX6_isOneTooMany_27 rfl (tX6_sideOf) l_X6_243 mX6_sideOf rfl (by decide) (Nat.le_of_ble_eq_true rfl) (by decide) (qI ?_)
      refine r_callV0 33 dX6_isOneTooMany_30 rfl (tX0_piecesOf gb) l_X6_59 mX0_piecesOf rfl (by repeat (first | assumption | exact isBd.o (by assumption) | exact isHp.o (by assumption) | exact isGm.o (by assumption) | exact isPd.o (by assumption) | refine gs_eq ?_ | refine gs_ne (by omega) ?_ | exact is_of (by assumption) | refine gs_is ?_)) rfl (by decide) (Nat.le_of_ble_eq_true rfl) (by decide) (qI ?_)
      refine r_bipush (v := 16) 35 dX6_isOneTooMany_33 rfl (by decide) ?_
      refine r_icmp_lt 42 38 dX6_isOneTooMany_35 (by decide) rfl (fun q35 => ?_) (fun q35 => ?_)
      · refine r_iconst (v := 0) 43 dX6_isOneTooMany_42 rfl (by decide) ?_
        refine r_bret dX6_isOneTooMany_43 rfl (by first | exact Or.inl rfl | exact Or.inr rfl) (by decide) (by decide) ?_
        first | exact ⟨by rw [otm, if_neg (fun z => z.elim q3 q14), decide_eq_true (Int32.not_lt.mp q35)]; rfl, rfl⟩ | exact ⟨by rw [otm, if_neg (fun z => z.elim q3 q14), decide_eq_false (Int32.not_le.mpr q35)]; rfl, rfl⟩
      · refine r_iconst (v := 1) 39 dX6_isOneTooMany_38 rfl (by decide) ?_
        refine r_goto 43 dX6_isOneTooMany_39 (by decide) ?_
        refine r_bret dX6_isOneTooMany_43 rfl (by first | exact Or.inl rfl | exact Or.inr rfl) (by decide) (by decide) ?_
        first | exact ⟨by rw [otm, if_neg (fun z => z.elim q3 q14), decide_eq_true (Int32.not_lt.mp q35)]; rfl, rfl⟩ | exact ⟨by rw [otm, if_neg (fun z => z.elim q3 q14), decide_eq_false (Int32.not_le.mpr q35)]; rfl, rfl⟩
    · refine r_iconst (v := 0) 18 dX6_isOneTooMany_17 rfl (by decide) ?_
      refine r_bret dX6_isOneTooMany_18 rfl (by first | exact Or.inl rfl | exact Or.inr rfl) (by decide) (by decide) ?_
      first | exact ⟨by rw [otm, if_pos (Or.inl q3)]; rfl, rfl⟩ | exact ⟨by rw [otm, if_pos (Or.inr q14)]; rfl, rfl⟩

set_option maxRecDepth 100000 in
theorem tX6_set {Γ : CT} {w : PW} {f n : Nat → Int32} {mv jp : Int32} {cl lo : Nat → Int32} {ps : List T3} {cs mk qt oc : Int32} {H : List GS} {S : Nat → Option GS} {pf : Nat → Int32} {pn : Nat} {s p : Int32} (hr : isRD w (f, n, mv, jp, cl, lo, ps, cs, mk, qt, oc) H S pf pn) : Cl Γ yX6_set XX6_set 7 7 252 [.ref 0, .int s, .int p] w (if inI s 0 47 = true then (if p ≠ -6 ∧ inI p 0 3 = false then rI (-2) w else if otm n p (pAt f s) = true then rI (-4) w else rP (pAt f s) (toRD w ((plF f s p), (plN f n s p), mv, -6, cl, (fun _ => 0), [t3O (plF f s p) mv (-6)], cs, 0, 0, judO (plF f s p) mv [t3O (plF f s p) mv (-6)] 0) (keepL H (f, n, mv, jp, cl, lo, ps, cs, mk, qt, oc)) S pf pn)) else rI (-1) w) := by
  refine Cl.of (ls := [some (.ref 0), some (.int s), some (.int p), none]) rfl (by decide +kernel) (fun h => by cases h) (Nat.le_of_ble_eq_true rfl) rfl ?_
  obtain ⟨⟨r0, r13, r14, r15⟩, rg, ⟨st, sl, r8, r9, r10, rH, rp, rS, rk⟩, rd, rs⟩ := id hr
  have rG : isGm w 1 f n mv jp cl lo ps cs mk qt oc := rg
  obtain ⟨g1, gb, g5, g6, gl, pfG, gO, g7⟩ := id rG
  have gb0 := gb.1
  have rd0 := rd.1
  refine r_iload_n 1 dX6_set_0 rfl rfl ?_
  refine r_callS0 4 dX6_set_1 rfl (tX6_isSquare) l_X6_65 mX6_isSquare rfl (by decide) (Nat.le_of_ble_eq_true rfl) (by decide) (qI ?_)
  refine r_if_ne 9 7 dX6_set_4 (by decide) rfl (fun q4 => ?_) (fun q4 => ?_)
  · refine r_iload_n 10 dX6_set_9 rfl rfl ?_
    refine r_bipush (v := (-6)) 12 dX6_set_10 rfl (by decide) ?_
    refine r_icmp_eq 25 15 dX6_set_12 (by decide) rfl (fun q12 => ?_) (fun q12 => ?_)
    · refine r_aload_n 26 dX6_set_25 rfl rfl rfl ?_
      refine r_getf 29 dX6_set_26 rfl f_X6_10.r (by repeat (first | assumption | exact isBd.o (by assumption) | exact isHp.o (by assumption) | exact isGm.o (by assumption) | exact isPd.o (by assumption) | refine gs_eq ?_ | refine gs_ne (by omega) ?_ | exact is_of (by assumption) | refine gs_is ?_)) rfl ?_
      refine r_getf 32 dX6_set_29 rfl f_X6_55 (by repeat (first | assumption | exact isBd.o (by assumption) | exact isHp.o (by assumption) | exact isGm.o (by assumption) | exact isPd.o (by assumption) | refine gs_eq ?_ | refine gs_ne (by omega) ?_ | exact is_of (by assumption) | refine gs_is ?_)) rfl ?_
      refine r_iload_n 33 dX6_set_32 rfl rfl ?_
      refine r_callV0 36 dX6_set_33 rfl (tX0_pieceAt gb) l_X6_72 mX0_pieceAt rfl (by repeat (first | assumption | exact isBd.o (by assumption) | exact isHp.o (by assumption) | exact isGm.o (by assumption) | exact isPd.o (by assumption) | refine gs_eq ?_ | refine gs_ne (by omega) ?_ | exact is_of (by assumption) | refine gs_is ?_)) rfl (by decide) (Nat.le_of_ble_eq_true rfl) (by decide) (qI ?_)
      refine r_istore_n (ls1 := [_, _, _, _]) 37 dX6_set_36 rfl (by decide) rfl rfl ?_
      refine r_aload_n 38 dX6_set_37 rfl rfl rfl ?_
      refine r_iload_n 39 dX6_set_38 rfl rfl ?_
      refine r_iload_n 40 dX6_set_39 rfl rfl ?_
      refine r_callV0 43 dX6_set_40 rfl (tX6_isOneTooMany hr) l_X6_75 mX6_isOneTooMany rfl (by repeat (first | assumption | exact isBd.o (by assumption) | exact isHp.o (by assumption) | exact isGm.o (by assumption) | exact isPd.o (by assumption) | refine gs_eq ?_ | refine gs_ne (by omega) ?_ | exact is_of (by assumption) | refine gs_is ?_)) rfl (by decide) (Nat.le_of_ble_eq_true rfl) (by decide) (qI ?_)
      refine r_if_eq 49 46 dX6_set_43 (by decide) rfl (fun q43 => ?_) (fun q43 => ?_)
      · refine r_aload_n 50 dX6_set_49 rfl rfl rfl ?_
        refine r_getf 53 dX6_set_50 rfl f_X6_19.r (by repeat (first | assumption | exact isBd.o (by assumption) | exact isHp.o (by assumption) | exact isGm.o (by assumption) | exact isPd.o (by assumption) | refine gs_eq ?_ | refine gs_ne (by omega) ?_ | exact is_of (by assumption) | refine gs_is ?_)) rfl ?_
        refine r_aload_n 54 dX6_set_53 rfl rfl rfl ?_
        refine r_getf 57 dX6_set_54 rfl f_X6_10.r (by repeat (first | assumption | exact isBd.o (by assumption) | exact isHp.o (by assumption) | exact isGm.o (by assumption) | exact isPd.o (by assumption) | refine gs_eq ?_ | refine gs_ne (by omega) ?_ | exact is_of (by assumption) | refine gs_is ?_)) rfl ?_
        refine r_callV 60 dX6_set_57 rfl (tKeep hr) l_X6_47 mX2_keep rfl (by repeat (first | assumption | exact isBd.o (by assumption) | exact isHp.o (by assumption) | exact isGm.o (by assumption) | exact isPd.o (by assumption) | refine gs_eq ?_ | refine gs_ne (by omega) ?_ | exact is_of (by assumption) | refine gs_is ?_)) rfl (by decide) (Nat.le_of_ble_eq_true rfl) (by decide) (qN fun w1 hk1 => ?_)
        obtain ⟨⟨hr1, hM1⟩, hF1⟩ := hk1
        obtain ⟨⟨r01, r131, r141, r151⟩, rg1, ⟨st1, sl1, r81, r91, r101, rH1, rp1, rS1, rk1⟩, rd1, rs1⟩ := id hr1
        have rG1 : isGm w1 1 f n mv jp cl lo ps cs mk qt oc := rg1
        obtain ⟨g11, gb1, g51, g61, gl1, pfG1, gO1, g71⟩ := id rG1
        have gb01 := gb1.1
        have rd01 := rd1.1
        refine r_aload_n 61 dX6_set_60 rfl rfl rfl ?_
        refine r_getf 64 dX6_set_61 rfl f_X6_10.r (by repeat (first | assumption | exact isBd.o (by assumption) | exact isHp.o (by assumption) | exact isGm.o (by assumption) | exact isPd.o (by assumption) | refine gs_eq ?_ | refine gs_ne (by omega) ?_ | exact is_of (by assumption) | refine gs_is ?_)) rfl ?_
        refine r_getf 67 dX6_set_64 rfl f_X6_55 (by repeat (first | assumption | exact isBd.o (by assumption) | exact isHp.o (by assumption) | exact isGm.o (by assumption) | exact isPd.o (by assumption) | refine gs_eq ?_ | refine gs_ne (by omega) ?_ | exact is_of (by assumption) | refine gs_is ?_)) rfl ?_
        refine r_iload_n 68 dX6_set_67 rfl rfl ?_
        refine r_iload_n 69 dX6_set_68 rfl rfl ?_
        refine r_callV0 72 dX6_set_69 rfl (tX0_place gb1) l_X6_79 mX0_place rfl (by repeat (first | assumption | exact isBd.o (by assumption) | exact isHp.o (by assumption) | exact isGm.o (by assumption) | exact isPd.o (by assumption) | refine gs_eq ?_ | refine gs_ne (by omega) ?_ | exact is_of (by assumption) | refine gs_is ?_)) rfl (by decide) (Nat.le_of_ble_eq_true rfl) (by decide) (qN fun w2 h2 => ?_)
        have k2 := rG1.bd h2
        have e0 := (k2.1.2 0 (by unfold gS; omega)).trans r01
        have e1 := k2.2.1
        refine r_aload_n 73 dX6_set_72 rfl rfl rfl ?_
        refine r_getf 76 dX6_set_73 rfl f_X6_10.r (by repeat (first | assumption | exact isBd.o (by assumption) | exact isHp.o (by assumption) | exact isGm.o (by assumption) | exact isPd.o (by assumption) | refine gs_eq ?_ | refine gs_ne (by omega) ?_ | exact is_of (by assumption) | refine gs_is ?_)) rfl ?_
        refine r_callV0 79 dX6_set_76 rfl (tX1_startFromHere k2.2) l_X6_83 mX1_startFromHere rfl (by repeat (first | assumption | exact isBd.o (by assumption) | exact isHp.o (by assumption) | exact isGm.o (by assumption) | exact isPd.o (by assumption) | refine gs_eq ?_ | refine gs_ne (by omega) ?_ | exact is_of (by assumption) | refine gs_is ?_)) rfl (by decide) (Nat.le_of_ble_eq_true rfl) (by decide) (qN fun w3 k3 => ?_)
        refine r_iload_n 80 dX6_set_79 rfl rfl ?_
        refine r_iret dX6_set_80 rfl (by decide) (by decide) ?_
        rw [if_pos (ne_f q4), if_neg (by first | exact (fun z => z.1 q12) | exact (fun z => absurd (ne_f q19) (by rw [z.2]; decide))), if_neg (eq_f q43)]
        exact ⟨rfl, toRD.tr ⟨hr1, hM1⟩ (hr1.game (k2.1.tr k3.1) k3.2)⟩
      · refine r_bipush (v := (-4)) 48 dX6_set_46 rfl (by decide) ?_
        refine r_iret dX6_set_48 rfl (by decide) (by decide) ?_
        rw [if_pos (ne_f q4), if_neg (by first | exact (fun z => z.1 q12) | exact (fun z => absurd (ne_f q19) (by rw [z.2]; decide))), if_pos (ne_f q43)]
        exact ⟨rfl, rfl⟩
    · refine r_iload_n 16 dX6_set_15 rfl rfl ?_
      refine r_callS0 19 dX6_set_16 rfl (tX6_isPiece) l_X6_69 mX6_isPiece rfl (by decide) (Nat.le_of_ble_eq_true rfl) (by decide) (qI ?_)
      refine r_if_ne 25 22 dX6_set_19 (by decide) rfl (fun q19 => ?_) (fun q19 => ?_)
      · refine r_aload_n 26 dX6_set_25 rfl rfl rfl ?_
        refine r_getf 29 dX6_set_26 rfl f_X6_10.r (by repeat (first | assumption | exact isBd.o (by assumption) | exact isHp.o (by assumption) | exact isGm.o (by assumption) | exact isPd.o (by assumption) | refine gs_eq ?_ | refine gs_ne (by omega) ?_ | exact is_of (by assumption) | refine gs_is ?_)) rfl ?_
        refine r_getf 32 dX6_set_29 rfl f_X6_55 (by repeat (first | assumption | exact isBd.o (by assumption) | exact isHp.o (by assumption) | exact isGm.o (by assumption) | exact isPd.o (by assumption) | refine gs_eq ?_ | refine gs_ne (by omega) ?_ | exact is_of (by assumption) | refine gs_is ?_)) rfl ?_
        refine r_iload_n 33 dX6_set_32 rfl rfl ?_
        refine r_callV0 36 dX6_set_33 rfl (tX0_pieceAt gb) l_X6_72 mX0_pieceAt rfl (by repeat (first | assumption | exact isBd.o (by assumption) | exact isHp.o (by assumption) | exact isGm.o (by assumption) | exact isPd.o (by assumption) | refine gs_eq ?_ | refine gs_ne (by omega) ?_ | exact is_of (by assumption) | refine gs_is ?_)) rfl (by decide) (Nat.le_of_ble_eq_true rfl) (by decide) (qI ?_)
        refine r_istore_n (ls1 := [_, _, _, _]) 37 dX6_set_36 rfl (by decide) rfl rfl ?_
        refine r_aload_n 38 dX6_set_37 rfl rfl rfl ?_
        refine r_iload_n 39 dX6_set_38 rfl rfl ?_
        refine r_iload_n 40 dX6_set_39 rfl rfl ?_
        refine r_callV0 43 dX6_set_40 rfl (tX6_isOneTooMany hr) l_X6_75 mX6_isOneTooMany rfl (by repeat (first | assumption | exact isBd.o (by assumption) | exact isHp.o (by assumption) | exact isGm.o (by assumption) | exact isPd.o (by assumption) | refine gs_eq ?_ | refine gs_ne (by omega) ?_ | exact is_of (by assumption) | refine gs_is ?_)) rfl (by decide) (Nat.le_of_ble_eq_true rfl) (by decide) (qI ?_)
        refine r_if_eq 49 46 dX6_set_43 (by decide) rfl (fun q43 => ?_) (fun q43 => ?_)
        · refine r_aload_n 50 dX6_set_49 rfl rfl rfl ?_
          refine r_getf 53 dX6_set_50 rfl f_X6_19.r (by repeat (first | assumption | exact isBd.o (by assumption) | exact isHp.o (by assumption) | exact isGm.o (by assumption) | exact isPd.o (by assumption) | refine gs_eq ?_ | refine gs_ne (by omega) ?_ | exact is_of (by assumption) | refine gs_is ?_)) rfl ?_
          refine r_aload_n 54 dX6_set_53 rfl rfl rfl ?_
          refine r_getf 57 dX6_set_54 rfl f_X6_10.r (by repeat (first | assumption | exact isBd.o (by assumption) | exact isHp.o (by assumption) | exact isGm.o (by assumption) | exact isPd.o (by assumption) | refine gs_eq ?_ | refine gs_ne (by omega) ?_ | exact is_of (by assumption) | refine gs_is ?_)) rfl ?_
          refine r_callV 60 dX6_set_57 rfl (tKeep hr) l_X6_47 mX2_keep rfl (by repeat (first | assumption | exact isBd.o (by assumption) | exact isHp.o (by assumption) | exact isGm.o (by assumption) | exact isPd.o (by assumption) | refine gs_eq ?_ | refine gs_ne (by omega) ?_ | exact is_of (by assumption) | refine gs_is ?_)) rfl (by decide) (Nat.le_of_ble_eq_true rfl) (by decide) (qN fun w1 hk1 => ?_)
          obtain ⟨⟨hr1, hM1⟩, hF1⟩ := hk1
          obtain ⟨⟨r01, r131, r141, r151⟩, rg1, ⟨st1, sl1, r81, r91, r101, rH1, rp1, rS1, rk1⟩, rd1, rs1⟩ := id hr1
          have rG1 : isGm w1 1 f n mv jp cl lo ps cs mk qt oc := rg1
          obtain ⟨g11, gb1, g51, g61, gl1, pfG1, gO1, g71⟩ := id rG1
          have gb01 := gb1.1
          have rd01 := rd1.1
          refine r_aload_n 61 dX6_set_60 rfl rfl rfl ?_
          refine r_getf 64 dX6_set_61 rfl f_X6_10.r (by repeat (first | assumption | exact isBd.o (by assumption) | exact isHp.o (by assumption) | exact isGm.o (by assumption) | exact isPd.o (by assumption) | refine gs_eq ?_ | refine gs_ne (by omega) ?_ | exact is_of (by assumption) | refine gs_is ?_)) rfl ?_
          refine r_getf 67 dX6_set_64 rfl f_X6_55 (by repeat (first | assumption | exact isBd.o (by assumption) | exact isHp.o (by assumption) | exact isGm.o (by assumption) | exact isPd.o (by assumption) | refine gs_eq ?_ | refine gs_ne (by omega) ?_ | exact is_of (by assumption) | refine gs_is ?_)) rfl ?_
          refine r_iload_n 68 dX6_set_67 rfl rfl ?_
          refine r_iload_n 69 dX6_set_68 rfl rfl ?_
          refine r_callV0 72 dX6_set_69 rfl (tX0_place gb1) l_X6_79 mX0_place rfl (by repeat (first | assumption | exact isBd.o (by assumption) | exact isHp.o (by assumption) | exact isGm.o (by assumption) | exact isPd.o (by assumption) | refine gs_eq ?_ | refine gs_ne (by omega) ?_ | exact is_of (by assumption) | refine gs_is ?_)) rfl (by decide) (Nat.le_of_ble_eq_true rfl) (by decide) (qN fun w2 h2 => ?_)
          have k2 := rG1.bd h2
          have e0 := (k2.1.2 0 (by unfold gS; omega)).trans r01
          have e1 := k2.2.1
          refine r_aload_n 73 dX6_set_72 rfl rfl rfl ?_
          refine r_getf 76 dX6_set_73 rfl f_X6_10.r (by repeat (first | assumption | exact isBd.o (by assumption) | exact isHp.o (by assumption) | exact isGm.o (by assumption) | exact isPd.o (by assumption) | refine gs_eq ?_ | refine gs_ne (by omega) ?_ | exact is_of (by assumption) | refine gs_is ?_)) rfl ?_
          refine r_callV0 79 dX6_set_76 rfl (tX1_startFromHere k2.2) l_X6_83 mX1_startFromHere rfl (by repeat (first | assumption | exact isBd.o (by assumption) | exact isHp.o (by assumption) | exact isGm.o (by assumption) | exact isPd.o (by assumption) | refine gs_eq ?_ | refine gs_ne (by omega) ?_ | exact is_of (by assumption) | refine gs_is ?_)) rfl (by decide) (Nat.le_of_ble_eq_true rfl) (by decide) (qN fun w3 k3 => ?_)
          refine r_iload_n 80 dX6_set_79 rfl rfl ?_
          refine r_iret dX6_set_80 rfl (by decide) (by decide) ?_
          rw [if_pos (ne_f q4), if_neg (by first | exact (fun z => z.1 q12) | exact (fun z => absurd (ne_f q19) (by rw [z.2]; decide))), if_neg (eq_f q43)]
          exact ⟨rfl, toRD.tr ⟨hr1, hM1⟩ (hr1.game (k2.1.tr k3.1) k3.2)⟩
        · refine r_bipush (v := (-4)) 48 dX6_set_46 rfl (by decide) ?_
          refine r_iret dX6_set_48 rfl (by decide) (by decide) ?_
          rw [if_pos (ne_f q4), if_neg (by first | exact (fun z => z.1 q12) | exact (fun z => absurd (ne_f q19) (by rw [z.2]; decide))), if_pos (ne_f q43)]
          exact ⟨rfl, rfl⟩
      · refine r_bipush (v := (-2)) 24 dX6_set_22 rfl (by decide) ?_
        refine r_iret dX6_set_24 rfl (by decide) (by decide) ?_
        rw [if_pos (ne_f q4), if_pos ⟨q12, bI_0.mp q19⟩]
        exact ⟨rfl, rfl⟩
  · refine r_iconst (v := (-1)) 8 dX6_set_7 rfl (by decide) ?_
    refine r_iret dX6_set_8 rfl (by decide) (by decide) ?_
    rw [if_neg (eq_f q4)]
    exact ⟨rfl, rfl⟩

set_option maxRecDepth 100000 in
theorem tX6_turn {Γ : CT} {w : PW} {f n : Nat → Int32} {mv jp : Int32} {cl lo : Nat → Int32} {ps : List T3} {cs mk qt oc : Int32} {H : List GS} {S : Nat → Option GS} {pf : Nat → Int32} {pn : Nat} {s : Int32} (hr : isRD w (f, n, mv, jp, cl, lo, ps, cs, mk, qt, oc) H S pf pn) : Cl Γ yX6_turn XX6_turn 7 7 252 [.ref 0, .int s] w (if s = 0 ∨ s = 1 then rP mv (toRD w (f, n, s, -6, cl, (fun _ => 0), [t3O f s (-6)], cs, 0, 0, judO f s [t3O f s (-6)] 0) (keepL H (f, n, mv, jp, cl, lo, ps, cs, mk, qt, oc)) S pf pn) else rI (-2) w) := by
  refine Cl.of (ls := [some (.ref 0), some (.int s), none]) rfl (by decide +kernel) (fun h => by cases h) (Nat.le_of_ble_eq_true rfl) rfl ?_
  obtain ⟨⟨r0, r13, r14, r15⟩, rg, ⟨st, sl, r8, r9, r10, rH, rp, rS, rk⟩, rd, rs⟩ := id hr
  have rG : isGm w 1 f n mv jp cl lo ps cs mk qt oc := rg
  obtain ⟨g1, gb, g5, g6, gl, pfG, gO, g7⟩ := id rG
  have gb0 := gb.1
  have rd0 := rd.1
  refine r_iload_n 1 dX6_turn_0 rfl rfl ?_
  refine r_callS0 4 dX6_turn_1 rfl (tX6_isSide) l_X6_86 mX6_isSide rfl (by decide) (Nat.le_of_ble_eq_true rfl) (by decide) (qI ?_)
  refine r_if_ne 10 7 dX6_turn_4 (by decide) rfl (fun q4 => ?_) (fun q4 => ?_)
  · refine r_aload_n 11 dX6_turn_10 rfl rfl rfl ?_
    refine r_getf 14 dX6_turn_11 rfl f_X6_19.r (by repeat (first | assumption | exact isBd.o (by assumption) | exact isHp.o (by assumption) | exact isGm.o (by assumption) | exact isPd.o (by assumption) | refine gs_eq ?_ | refine gs_ne (by omega) ?_ | exact is_of (by assumption) | refine gs_is ?_)) rfl ?_
    refine r_aload_n 15 dX6_turn_14 rfl rfl rfl ?_
    refine r_getf 18 dX6_turn_15 rfl f_X6_10.r (by repeat (first | assumption | exact isBd.o (by assumption) | exact isHp.o (by assumption) | exact isGm.o (by assumption) | exact isPd.o (by assumption) | refine gs_eq ?_ | refine gs_ne (by omega) ?_ | exact is_of (by assumption) | refine gs_is ?_)) rfl ?_
    refine r_callV 21 dX6_turn_18 rfl (tKeep hr) l_X6_47 mX2_keep rfl (by repeat (first | assumption | exact isBd.o (by assumption) | exact isHp.o (by assumption) | exact isGm.o (by assumption) | exact isPd.o (by assumption) | refine gs_eq ?_ | refine gs_ne (by omega) ?_ | exact is_of (by assumption) | refine gs_is ?_)) rfl (by decide) (Nat.le_of_ble_eq_true rfl) (by decide) (qN fun w1 hk1 => ?_)
    obtain ⟨⟨hr1, hM1⟩, hF1⟩ := hk1
    obtain ⟨⟨r01, r131, r141, r151⟩, rg1, ⟨st1, sl1, r81, r91, r101, rH1, rp1, rS1, rk1⟩, rd1, rs1⟩ := id hr1
    have rG1 : isGm w1 1 f n mv jp cl lo ps cs mk qt oc := rg1
    obtain ⟨g11, gb1, g51, g61, gl1, pfG1, gO1, g71⟩ := id rG1
    have gb01 := gb1.1
    have rd01 := rd1.1
    refine r_aload_n 22 dX6_turn_21 rfl rfl rfl ?_
    refine r_getf 25 dX6_turn_22 rfl f_X6_10.r (by repeat (first | assumption | exact isBd.o (by assumption) | exact isHp.o (by assumption) | exact isGm.o (by assumption) | exact isPd.o (by assumption) | refine gs_eq ?_ | refine gs_ne (by omega) ?_ | exact is_of (by assumption) | refine gs_is ?_)) rfl ?_
    refine r_getf 28 dX6_turn_25 rfl f_X6_55 (by repeat (first | assumption | exact isBd.o (by assumption) | exact isHp.o (by assumption) | exact isGm.o (by assumption) | exact isPd.o (by assumption) | refine gs_eq ?_ | refine gs_ne (by omega) ?_ | exact is_of (by assumption) | refine gs_is ?_)) rfl ?_
    refine r_getf 31 dX6_turn_28 rfl f_X6_89.r (by repeat (first | assumption | exact isBd.o (by assumption) | exact isHp.o (by assumption) | exact isGm.o (by assumption) | exact isPd.o (by assumption) | refine gs_eq ?_ | refine gs_ne (by omega) ?_ | exact is_of (by assumption) | refine gs_is ?_)) rfl ?_
    refine r_istore_n (ls1 := [_, _, _]) 32 dX6_turn_31 rfl (by decide) rfl rfl ?_
    refine r_aload_n 33 dX6_turn_32 rfl rfl rfl ?_
    refine r_getf 36 dX6_turn_33 rfl f_X6_10.r (by repeat (first | assumption | exact isBd.o (by assumption) | exact isHp.o (by assumption) | exact isGm.o (by assumption) | exact isPd.o (by assumption) | refine gs_eq ?_ | refine gs_ne (by omega) ?_ | exact is_of (by assumption) | refine gs_is ?_)) rfl ?_
    refine r_getf 39 dX6_turn_36 rfl f_X6_55 (by repeat (first | assumption | exact isBd.o (by assumption) | exact isHp.o (by assumption) | exact isGm.o (by assumption) | exact isPd.o (by assumption) | refine gs_eq ?_ | refine gs_ne (by omega) ?_ | exact is_of (by assumption) | refine gs_is ?_)) rfl ?_
    refine r_iload_n 40 dX6_turn_39 rfl rfl ?_
    refine r_putf (fs1 := [_, _, _, _]) 43 dX6_turn_40 rfl f_X6_89 (by repeat (first | assumption | exact isBd.o (by assumption) | exact isHp.o (by assumption) | exact isGm.o (by assumption) | exact isPd.o (by assumption) | refine gs_eq ?_ | refine gs_ne (by omega) ?_ | exact is_of (by assumption) | refine gs_is ?_)) rfl (by simp only [List.length_cons, List.length_nil]; omega) rfl ?_
    have k2 := rG1.bd (gb1.setO (mv1 := s) (jp1 := jp))
    have e0 := (k2.1.2 0 (by unfold gS; omega)).trans r01
    have e1 := k2.2.1
    refine r_aload_n 44 dX6_turn_43 rfl rfl rfl ?_
    refine r_getf 47 dX6_turn_44 rfl f_X6_10.r (by repeat (first | assumption | exact isBd.o (by assumption) | exact isHp.o (by assumption) | exact isGm.o (by assumption) | exact isPd.o (by assumption) | refine gs_eq ?_ | refine gs_ne (by omega) ?_ | exact is_of (by assumption) | refine gs_is ?_)) rfl ?_
    refine r_callV0 50 dX6_turn_47 rfl (tX1_startFromHere k2.2) l_X6_83 mX1_startFromHere rfl (by repeat (first | assumption | exact isBd.o (by assumption) | exact isHp.o (by assumption) | exact isGm.o (by assumption) | exact isPd.o (by assumption) | refine gs_eq ?_ | refine gs_ne (by omega) ?_ | exact is_of (by assumption) | refine gs_is ?_)) rfl (by decide) (Nat.le_of_ble_eq_true rfl) (by decide) (qN fun w3 k3 => ?_)
    refine r_iload_n 51 dX6_turn_50 rfl rfl ?_
    refine r_iret dX6_turn_51 rfl (by decide) (by decide) ?_
    rw [if_pos (of_decide_eq_true (ne_f q4))]
    exact ⟨rfl, toRD.tr ⟨hr1, hM1⟩ (hr1.game (k2.1.tr k3.1) k3.2)⟩
  · refine r_bipush (v := (-2)) 9 dX6_turn_7 rfl (by decide) ?_
    refine r_iret dX6_turn_9 rfl (by decide) (by decide) ?_
    rw [if_neg (of_decide_eq_false (bI_0.mp q4))]
    exact ⟨rfl, rfl⟩

set_option maxRecDepth 100000 in
theorem tX6_giveUp {Γ : CT} {w : PW} {f n : Nat → Int32} {mv jp : Int32} {cl lo : Nat → Int32} {ps : List T3} {cs mk qt oc : Int32} {H : List GS} {S : Nat → Option GS} {pf : Nat → Int32} {pn : Nat} (hr : isRD w (f, n, mv, jp, cl, lo, ps, cs, mk, qt, oc) H S pf pn) : Cl Γ yX6_giveUp XX6_giveUp 7 7 252 [.ref 0] w (if oc = 0 then rP (wonO (1 - mv)) (toRD w (f, n, mv, jp, cl, lo, ps, cs, mk, qt, wonO (1 - mv)) (keepL H (f, n, mv, jp, cl, lo, ps, cs, mk, qt, oc)) S pf pn) else rI (-5) w) := by
  refine Cl.of (ls := [some (.ref 0)]) rfl (by decide +kernel) (fun h => by cases h) (Nat.le_of_ble_eq_true rfl) rfl ?_
  obtain ⟨⟨r0, r13, r14, r15⟩, rg, ⟨st, sl, r8, r9, r10, rH, rp, rS, rk⟩, rd, rs⟩ := id hr
  have rG : isGm w 1 f n mv jp cl lo ps cs mk qt oc := rg
  obtain ⟨g1, gb, g5, g6, gl, pfG, gO, g7⟩ := id rG
  have gb0 := gb.1
  have rd0 := rd.1
  refine r_aload_n 1 dX6_giveUp_0 rfl rfl rfl ?_
  refine r_getf 4 dX6_giveUp_1 rfl f_X6_10.r (by repeat (first | assumption | exact isBd.o (by assumption) | exact isHp.o (by assumption) | exact isGm.o (by assumption) | exact isPd.o (by assumption) | refine gs_eq ?_ | refine gs_ne (by omega) ?_ | exact is_of (by assumption) | refine gs_is ?_)) rfl ?_
  refine r_getf 7 dX6_giveUp_4 rfl f_X6_105.r (by repeat (first | assumption | exact isBd.o (by assumption) | exact isHp.o (by assumption) | exact isGm.o (by assumption) | exact isPd.o (by assumption) | refine gs_eq ?_ | refine gs_ne (by omega) ?_ | exact is_of (by assumption) | refine gs_is ?_)) rfl ?_
  refine r_if_eq 13 10 dX6_giveUp_7 (by decide) rfl (fun q7 => ?_) (fun q7 => ?_)
  · refine r_aload_n 14 dX6_giveUp_13 rfl rfl rfl ?_
    refine r_getf 17 dX6_giveUp_14 rfl f_X6_19.r (by repeat (first | assumption | exact isBd.o (by assumption) | exact isHp.o (by assumption) | exact isGm.o (by assumption) | exact isPd.o (by assumption) | refine gs_eq ?_ | refine gs_ne (by omega) ?_ | exact is_of (by assumption) | refine gs_is ?_)) rfl ?_
    refine r_aload_n 18 dX6_giveUp_17 rfl rfl rfl ?_
    refine r_getf 21 dX6_giveUp_18 rfl f_X6_10.r (by repeat (first | assumption | exact isBd.o (by assumption) | exact isHp.o (by assumption) | exact isGm.o (by assumption) | exact isPd.o (by assumption) | refine gs_eq ?_ | refine gs_ne (by omega) ?_ | exact is_of (by assumption) | refine gs_is ?_)) rfl ?_
    refine r_callV 24 dX6_giveUp_21 rfl (tKeep hr) l_X6_47 mX2_keep rfl (by repeat (first | assumption | exact isBd.o (by assumption) | exact isHp.o (by assumption) | exact isGm.o (by assumption) | exact isPd.o (by assumption) | refine gs_eq ?_ | refine gs_ne (by omega) ?_ | exact is_of (by assumption) | refine gs_is ?_)) rfl (by decide) (Nat.le_of_ble_eq_true rfl) (by decide) (qN fun w1 hk1 => ?_)
    obtain ⟨⟨hr1, hM1⟩, hF1⟩ := hk1
    obtain ⟨⟨r01, r131, r141, r151⟩, rg1, ⟨st1, sl1, r81, r91, r101, rH1, rp1, rS1, rk1⟩, rd1, rs1⟩ := id hr1
    have rG1 : isGm w1 1 f n mv jp cl lo ps cs mk qt oc := rg1
    obtain ⟨g11, gb1, g51, g61, gl1, pfG1, gO1, g71⟩ := id rG1
    have gb01 := gb1.1
    have rd01 := rd1.1
    refine r_aload_n 25 dX6_giveUp_24 rfl rfl rfl ?_
    refine r_getf 28 dX6_giveUp_25 rfl f_X6_10.r (by repeat (first | assumption | exact isBd.o (by assumption) | exact isHp.o (by assumption) | exact isGm.o (by assumption) | exact isPd.o (by assumption) | refine gs_eq ?_ | refine gs_ne (by omega) ?_ | exact is_of (by assumption) | refine gs_is ?_)) rfl ?_
    refine r_iconst (v := 1) 29 dX6_giveUp_28 rfl (by decide) ?_
    refine r_aload_n 30 dX6_giveUp_29 rfl rfl rfl ?_
    refine r_getf 33 dX6_giveUp_30 rfl f_X6_10.r (by repeat (first | assumption | exact isBd.o (by assumption) | exact isHp.o (by assumption) | exact isGm.o (by assumption) | exact isPd.o (by assumption) | refine gs_eq ?_ | refine gs_ne (by omega) ?_ | exact is_of (by assumption) | refine gs_is ?_)) rfl ?_
    refine r_getf 36 dX6_giveUp_33 rfl f_X6_55 (by repeat (first | assumption | exact isBd.o (by assumption) | exact isHp.o (by assumption) | exact isGm.o (by assumption) | exact isPd.o (by assumption) | refine gs_eq ?_ | refine gs_ne (by omega) ?_ | exact is_of (by assumption) | refine gs_is ?_)) rfl ?_
    refine r_getf 39 dX6_giveUp_36 rfl f_X6_89.r (by repeat (first | assumption | exact isBd.o (by assumption) | exact isHp.o (by assumption) | exact isGm.o (by assumption) | exact isPd.o (by assumption) | refine gs_eq ?_ | refine gs_ne (by omega) ?_ | exact is_of (by assumption) | refine gs_is ?_)) rfl ?_
    refine r_isub 40 dX6_giveUp_39 rfl ?_
    refine r_callS0 43 dX6_giveUp_40 rfl (tX6_wonBy) l_X6_127 mX6_wonBy rfl (by decide) (Nat.le_of_ble_eq_true rfl) (by decide) (qI ?_)
    refine r_putf (fs1 := [_, _, _, _, _, _, _, _, _]) 46 dX6_giveUp_43 rfl f_X6_105 (by repeat (first | assumption | exact isBd.o (by assumption) | exact isHp.o (by assumption) | exact isGm.o (by assumption) | exact isPd.o (by assumption) | refine gs_eq ?_ | refine gs_ne (by omega) ?_ | exact is_of (by assumption) | refine gs_is ?_)) rfl (by simp only [List.length_cons, List.length_nil]; omega) rfl ?_
    refine r_aload_n 47 dX6_giveUp_46 rfl rfl rfl ?_
    refine r_getf 50 dX6_giveUp_47 rfl f_X6_10.r (by repeat (first | assumption | exact isBd.o (by assumption) | exact isHp.o (by assumption) | exact isGm.o (by assumption) | exact isPd.o (by assumption) | refine gs_eq ?_ | refine gs_ne (by omega) ?_ | exact is_of (by assumption) | refine gs_is ?_)) rfl ?_
    refine r_getf 53 dX6_giveUp_50 rfl f_X6_105.r (by repeat (first | assumption | exact isBd.o (by assumption) | exact isHp.o (by assumption) | exact isGm.o (by assumption) | exact isPd.o (by assumption) | refine gs_eq ?_ | refine gs_ne (by omega) ?_ | exact is_of (by assumption) | refine gs_is ?_)) rfl ?_
    refine r_iret dX6_giveUp_53 rfl (by decide) (by decide) ?_
    rw [if_pos q7]
    have k2 := rG1.setO (cs1 := cs) (mk1 := mk) (qt1 := qt) (oc1 := wonO (1 - mv))
    exact ⟨rfl, toRD.tr ⟨hr1, hM1⟩ (hr1.game k2.1 k2.2)⟩
  · refine r_bipush (v := (-5)) 12 dX6_giveUp_10 rfl (by decide) ?_
    refine r_iret dX6_giveUp_12 rfl (by decide) (by decide) ?_
    rw [if_neg q7]
    exact ⟨rfl, rfl⟩

set_option maxRecDepth 100000 in
theorem tX6_step {Γ : CT} {w : PW} {c : PC} {s t : Int32} (h0 : w[0]? = some c) : Cl Γ yX6_step XX6_step 2 0 0 [.ref 0, .int s, .int t] w (if inI s 0 47 = true then (if 0 ≤ t ∧ t < 4 then rI (sqI s t 1) w else rI (-2) w) else rI (-1) w) := by
  refine Cl.of (ls := [some (.ref 0), some (.int s), some (.int t)]) rfl (by decide +kernel) (fun h => by cases h) (Nat.le_of_ble_eq_true rfl) rfl ?_
  refine r_iload_n 1 dX6_step_0 rfl rfl ?_
  refine r_callS0 4 dX6_step_1 rfl (tX6_isSquare) l_X6_65 mX6_isSquare rfl (by decide) (Nat.le_of_ble_eq_true rfl) (by decide) (qI ?_)
  refine r_if_ne 9 7 dX6_step_4 (by decide) rfl (fun q4 => ?_) (fun q4 => ?_)
  · refine r_iload_n 10 dX6_step_9 rfl rfl ?_
    refine r_if_lt 18 13 dX6_step_10 (by decide) rfl (fun q10 => ?_) (fun q10 => ?_)
    · refine r_bipush (v := (-2)) 20 dX6_step_18 rfl (by decide) ?_
      refine r_iret dX6_step_20 rfl (by decide) (by decide) ?_
      rw [if_pos (ne_f q4), if_neg (by first | exact (fun z => Int32.not_lt.mpr z.1 q10) | exact (fun z => q15 z.2))]
      exact ⟨rfl, rfl⟩
    · refine r_iload_n 14 dX6_step_13 rfl rfl ?_
      refine r_iconst (v := 4) 15 dX6_step_14 rfl (by decide) ?_
      refine r_icmp_lt 21 18 dX6_step_15 (by decide) rfl (fun q15 => ?_) (fun q15 => ?_)
      · refine r_iload_n 22 dX6_step_21 rfl rfl ?_
        refine r_iload_n 23 dX6_step_22 rfl rfl ?_
        refine r_iconst (v := 1) 24 dX6_step_23 rfl (by decide) ?_
        refine r_callS0 27 dX6_step_24 rfl (tX6_squareAfter) l_X6_146 mX6_squareAfter rfl (by decide) (Nat.le_of_ble_eq_true rfl) (by decide) (qI ?_)
        refine r_iret dX6_step_27 rfl (by decide) (by decide) ?_
        rw [if_pos (ne_f q4), if_pos ⟨Int32.not_lt.mp q10, q15⟩]
        exact ⟨rfl, rfl⟩
      · refine r_bipush (v := (-2)) 20 dX6_step_18 rfl (by decide) ?_
        refine r_iret dX6_step_20 rfl (by decide) (by decide) ?_
        rw [if_pos (ne_f q4), if_neg (by first | exact (fun z => Int32.not_lt.mpr z.1 q10) | exact (fun z => q15 z.2))]
        exact ⟨rfl, rfl⟩
  · refine r_iconst (v := (-1)) 8 dX6_step_7 rfl (by decide) ?_
    refine r_iret dX6_step_8 rfl (by decide) (by decide) ?_
    rw [if_neg (eq_f q4)]
    exact ⟨rfl, rfl⟩

set_option maxRecDepth 100000 in
theorem tX6_put {Γ : CT} {w : PW} {f n : Nat → Int32} {mv jp : Int32} {cl lo : Nat → Int32} {ps : List T3} {cs mk qt oc : Int32} {H : List GS} {S : Nat → Option GS} {pf : Nat → Int32} {pn : Nat} {c : Int64} (hr : isRD w (f, n, mv, jp, cl, lo, ps, cs, mk, qt, oc) H S pf pn) : Cl Γ yX6_put XX6_put 7 0 0 [.ref 0, .long c] w (if nsO 8 c 0 = 0 then rI (-2) w else if 60 < pn + nsO 8 c 0 then rI (-4) w else rP (nI (pn + nsO 8 c 0)) (toRD w (f, n, mv, jp, cl, lo, ps, cs, mk, qt, oc) H S (apF c pf pn (nsO 8 c 0)) (pn + nsO 8 c 0))) := by
  refine Cl.of (ls := [some (.ref 0), some (.long c), none, none]) rfl (by decide +kernel) (fun h => by cases h) (Nat.le_of_ble_eq_true rfl) rfl ?_
  obtain ⟨⟨r0, r13, r14, r15⟩, rg, ⟨st, sl, r8, r9, r10, rH, rp, rS, rk⟩, rd, rs⟩ := id hr
  have rG : isGm w 1 f n mv jp cl lo ps cs mk qt oc := rg
  obtain ⟨g1, gb, g5, g6, gl, pfG, gO, g7⟩ := id rG
  have gb0 := gb.1
  have rd0 := rd.1
  have hn8 := nsO_le 8 c 0
  have hpn := rd.2.2.1
  refine r_lload_n 1 dX6_put_0 rfl rfl ?_
  refine r_callS0 4 dX6_put_1 rfl (tX4_numberOfSigns) l_X6_223 mX4_numberOfSigns rfl (by decide) (Nat.le_of_ble_eq_true rfl) (by decide) (qI ?_)
  refine r_istore_n (ls1 := [_, _, _, _]) 5 dX6_put_4 rfl (by decide) rfl rfl ?_
  refine r_iload_n 6 dX6_put_5 rfl rfl ?_
  refine r_if_ne 12 9 dX6_put_6 (by decide) rfl (fun q6 => ?_) (fun q6 => ?_)
  · refine r_aload_n 13 dX6_put_12 rfl rfl rfl ?_
    refine r_getf 16 dX6_put_13 rfl f_X6_30.r (by repeat (first | assumption | exact isBd.o (by assumption) | exact isHp.o (by assumption) | exact isGm.o (by assumption) | exact isPd.o (by assumption) | refine gs_eq ?_ | refine gs_ne (by omega) ?_ | exact is_of (by assumption) | refine gs_is ?_)) rfl ?_
    refine r_getf 19 dX6_put_16 rfl f_X6_116.r (by repeat (first | assumption | exact isBd.o (by assumption) | exact isHp.o (by assumption) | exact isGm.o (by assumption) | exact isPd.o (by assumption) | refine gs_eq ?_ | refine gs_ne (by omega) ?_ | exact is_of (by assumption) | refine gs_is ?_)) rfl ?_
    refine r_iload_n 20 dX6_put_19 rfl rfl ?_
    refine r_iadd 21 dX6_put_20 rfl ?_
    rw [nI_add]
    refine r_bipush (v := nI 60) 23 dX6_put_21 rfl (by decide) ?_
    refine r_icmp_le 29 26 dX6_put_23 (by decide) rfl (fun q23 => ?_) (fun q23 => ?_)
    · refine r_aload_n 30 dX6_put_29 rfl rfl rfl ?_
      refine r_getf 33 dX6_put_30 rfl f_X6_30.r (by repeat (first | assumption | exact isBd.o (by assumption) | exact isHp.o (by assumption) | exact isGm.o (by assumption) | exact isPd.o (by assumption) | refine gs_eq ?_ | refine gs_ne (by omega) ?_ | exact is_of (by assumption) | refine gs_is ?_)) rfl ?_
      refine r_lload_n 34 dX6_put_33 rfl rfl ?_
      refine r_iload_n 35 dX6_put_34 rfl rfl ?_
      refine r_callV0 38 dX6_put_35 rfl (tX4_append rd (by have := (nI_leI (a := pn + nsO 8 c 0) (b := 60) (by omega) (by decide)).mp q23; omega)) l_X6_227 mX4_append rfl (by repeat (first | assumption | exact isBd.o (by assumption) | exact isHp.o (by assumption) | exact isGm.o (by assumption) | exact isPd.o (by assumption) | refine gs_eq ?_ | refine gs_ne (by omega) ?_ | exact is_of (by assumption) | refine gs_is ?_)) rfl (by decide) (Nat.le_of_ble_eq_true rfl) (by decide) (qN fun w1 h1 => ?_)
      have e0 := (h1.1.2 0 (by unfold pS; omega)).trans r0
      have e1 := h1.2.1
      refine r_aload_n 39 dX6_put_38 rfl rfl rfl ?_
      refine r_getf 42 dX6_put_39 rfl f_X6_30.r (by repeat (first | assumption | exact isBd.o (by assumption) | exact isHp.o (by assumption) | exact isGm.o (by assumption) | exact isPd.o (by assumption) | refine gs_eq ?_ | refine gs_ne (by omega) ?_ | exact is_of (by assumption) | refine gs_is ?_)) rfl ?_
      refine r_getf 45 dX6_put_42 rfl f_X6_116.r (by repeat (first | assumption | exact isBd.o (by assumption) | exact isHp.o (by assumption) | exact isGm.o (by assumption) | exact isPd.o (by assumption) | refine gs_eq ?_ | refine gs_ne (by omega) ?_ | exact is_of (by assumption) | refine gs_is ?_)) rfl ?_
      refine r_iret dX6_put_45 rfl (by decide) (by decide) ?_
      rw [if_neg (fun z => q6 (by rw [z]; rfl)), if_neg (by have := (nI_leI (a := pn + nsO 8 c 0) (b := 60) (by omega) (by decide)).mp q23; omega)]
      exact ⟨rfl, hr.pad h1.1 h1.2⟩
    · refine r_bipush (v := (-4)) 28 dX6_put_26 rfl (by decide) ?_
      refine r_iret dX6_put_28 rfl (by decide) (by decide) ?_
      rw [if_neg (fun z => q6 (by rw [z]; rfl)), if_pos (by rcases Nat.lt_or_ge 60 (pn + nsO 8 c 0) with a | a; exact a; exact absurd (nI_le a (by decide)) q23)]
      exact ⟨rfl, rfl⟩
  · refine r_bipush (v := (-2)) 11 dX6_put_9 rfl (by decide) ?_
    refine r_iret dX6_put_11 rfl (by decide) (by decide) ?_
    rw [if_pos (nI_z (by omega) q6)]
    exact ⟨rfl, rfl⟩

set_option maxRecDepth 100000 in
theorem tX6_wipe {Γ : CT} {w : PW} {f n : Nat → Int32} {mv jp : Int32} {cl lo : Nat → Int32} {ps : List T3} {cs mk qt oc : Int32} {H : List GS} {S : Nat → Option GS} {pf : Nat → Int32} {pn : Nat} (hr : isRD w (f, n, mv, jp, cl, lo, ps, cs, mk, qt, oc) H S pf pn) : Cl Γ yX6_wipe XX6_wipe 7 0 0 [.ref 0] w (rP (nI pn) (toRD w (f, n, mv, jp, cl, lo, ps, cs, mk, qt, oc) H S pf 0)) := by
  refine Cl.of (ls := [some (.ref 0), none]) rfl (by decide +kernel) (fun h => by cases h) (Nat.le_of_ble_eq_true rfl) rfl ?_
  obtain ⟨⟨r0, r13, r14, r15⟩, rg, ⟨st, sl, r8, r9, r10, rH, rp, rS, rk⟩, rd, rs⟩ := id hr
  have rG : isGm w 1 f n mv jp cl lo ps cs mk qt oc := rg
  obtain ⟨g1, gb, g5, g6, gl, pfG, gO, g7⟩ := id rG
  have gb0 := gb.1
  have rd0 := rd.1
  refine r_aload_n 1 dX6_wipe_0 rfl rfl rfl ?_
  refine r_getf 4 dX6_wipe_1 rfl f_X6_30.r (by repeat (first | assumption | exact isBd.o (by assumption) | exact isHp.o (by assumption) | exact isGm.o (by assumption) | exact isPd.o (by assumption) | refine gs_eq ?_ | refine gs_ne (by omega) ?_ | exact is_of (by assumption) | refine gs_is ?_)) rfl ?_
  refine r_getf 7 dX6_wipe_4 rfl f_X6_116.r (by repeat (first | assumption | exact isBd.o (by assumption) | exact isHp.o (by assumption) | exact isGm.o (by assumption) | exact isPd.o (by assumption) | refine gs_eq ?_ | refine gs_ne (by omega) ?_ | exact is_of (by assumption) | refine gs_is ?_)) rfl ?_
  refine r_istore_n (ls1 := [_, _]) 8 dX6_wipe_7 rfl (by decide) rfl rfl ?_
  refine r_aload_n 9 dX6_wipe_8 rfl rfl rfl ?_
  refine r_getf 12 dX6_wipe_9 rfl f_X6_30.r (by repeat (first | assumption | exact isBd.o (by assumption) | exact isHp.o (by assumption) | exact isGm.o (by assumption) | exact isPd.o (by assumption) | refine gs_eq ?_ | refine gs_ne (by omega) ?_ | exact is_of (by assumption) | refine gs_is ?_)) rfl ?_
  refine r_iconst (v := nI 0) 13 dX6_wipe_12 rfl (by decide) ?_
  refine r_putf (fs1 := [_, _]) 16 dX6_wipe_13 rfl f_X6_116 (by repeat (first | assumption | exact isBd.o (by assumption) | exact isHp.o (by assumption) | exact isGm.o (by assumption) | exact isPd.o (by assumption) | refine gs_eq ?_ | refine gs_ne (by omega) ?_ | exact is_of (by assumption) | refine gs_is ?_)) rfl (by simp only [List.length_cons, List.length_nil]; omega) rfl ?_
  refine r_iload_n 17 dX6_wipe_16 rfl rfl ?_
  refine r_iret dX6_wipe_17 rfl (by decide) (by decide) ?_
  exact ⟨rfl, hr.pad (Fr.st (Or.inl rfl)) (rd.len (by decide))⟩

set_option maxRecDepth 100000 in
theorem tX6_fault {Γ : CT} {w : PW} {f n : Nat → Int32} {mv jp : Int32} {cl lo : Nat → Int32} {ps : List T3} {cs mk qt oc : Int32} {H : List GS} {S : Nat → Option GS} {pf : Nat → Int32} {pn : Nat} (hr : isRD w (f, n, mv, jp, cl, lo, ps, cs, mk, qt, oc) H S pf pn) : Cl Γ yX6_fault XX6_fault 7 0 0 [.ref 0] w (rI (ffO pf pn pn 0 0 0) w) := by
  refine Cl.of (ls := [some (.ref 0)]) rfl (by decide +kernel) (fun h => by cases h) (Nat.le_of_ble_eq_true rfl) rfl ?_
  obtain ⟨⟨r0, r13, r14, r15⟩, rg, ⟨st, sl, r8, r9, r10, rH, rp, rS, rk⟩, rd, rs⟩ := id hr
  have rG : isGm w 1 f n mv jp cl lo ps cs mk qt oc := rg
  obtain ⟨g1, gb, g5, g6, gl, pfG, gO, g7⟩ := id rG
  have gb0 := gb.1
  have rd0 := rd.1
  refine r_aload_n 1 dX6_fault_0 rfl rfl rfl ?_
  refine r_getf 4 dX6_fault_1 rfl f_X6_30.r (by repeat (first | assumption | exact isBd.o (by assumption) | exact isHp.o (by assumption) | exact isGm.o (by assumption) | exact isPd.o (by assumption) | refine gs_eq ?_ | refine gs_ne (by omega) ?_ | exact is_of (by assumption) | refine gs_is ?_)) rfl ?_
  refine r_callV0 7 dX6_fault_4 rfl (tX4_findFault rd) l_X6_112 mX4_findFault rfl (by repeat (first | assumption | exact isBd.o (by assumption) | exact isHp.o (by assumption) | exact isGm.o (by assumption) | exact isPd.o (by assumption) | refine gs_eq ?_ | refine gs_ne (by omega) ?_ | exact is_of (by assumption) | refine gs_is ?_)) rfl (by decide) (Nat.le_of_ble_eq_true rfl) (by decide) (qI ?_)
  refine r_iret dX6_fault_7 rfl (by decide) (by decide) ?_
  exact ⟨rfl, rfl⟩

