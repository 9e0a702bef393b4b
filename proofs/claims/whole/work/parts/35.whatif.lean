/-! ===== the calls: what if; told hops ===== -/
theorem i3 {x : Int32} (h : 1 ≤ x ∧ x ≤ 3) : ∃ k : Nat, k < 3 ∧ x = nI (k + 1) ∧ x.toNatClampNeg = k + 1 := by
  obtain ⟨j, hj, rfl⟩ := ix_of (x := x) (n := 4) (fun z => by have := Int32.le_trans h.1 (Int32.le_of_lt z); exact absurd this (by decide)) (fun z => absurd (Int32.le_trans z h.2) (by decide)) (by decide)
  have h1 : 1 ≤ j := (nI_leI (by decide) (by omega)).mp h.1
  exact ⟨j - 1, by omega, by congr 1; omega, by rw [nI_clamp (by omega)]; omega⟩
theorem i2 {x : Int32} (h : 0 ≤ x ∧ x ≤ 2) : ∃ k : Nat, k < 3 ∧ x = nI k ∧ x.toNatClampNeg = k := by
  obtain ⟨j, hj, rfl⟩ := ix_of (x := x) (n := 3) (Int32.not_lt.mpr h.1) (fun z => absurd (Int32.le_trans z h.2) (by decide)) (by decide)
  exact ⟨j, hj, rfl, nI_clamp (by omega)⟩
theorem i12 {x : Int32} (h : 1 ≤ x ∧ x ≤ 2) : ∃ k : Nat, k < 2 ∧ x = nI (k + 1) ∧ x.toNatClampNeg = k + 1 := by
  obtain ⟨k, h1, h2, h3⟩ := i3 ⟨h.1, Int32.le_trans h.2 (by decide)⟩
  refine ⟨k, ?_, h2, h3⟩
  have h4 : nI (k + 1) ≤ nI 2 := by rw [← h2]; exact h.2
  have := (nI_leI (by omega) (by decide)).mp h4
  omega
theorem tRows {Γ : CT} {w : PW} {f n : Nat → Int32} {mv jp : Int32} {k : Nat} (hk : k < 3) (ht : isTp w) (hsc : isSc w) (hb : isBd w 34 f n mv jp) (hmv : mv = 0 ∨ mv = 1) : Cl Γ yX6_numberOfRows XX6_numberOfRows 10 0 0 [.ref 13, .int (nI (k + 1)), .int (nI 20000)] w (rP (nI (nR k f mv jp 20000)) (fun w1 => Fr w w1 (fun q => 16 ≤ q ∧ q < 43) ∧ isSc w1)) := by
  match k, hk with
  | 0, _ => exact tRows01 ht hsc hb hmv (by decide)
  | 1, _ => exact tRows02 ht hsc hb hmv (by decide)
  | 2, _ => exact tRows03 ht hsc hb hmv (by decide)
theorem tWorth {Γ : CT} {w : PW} {f n : Nat → Int32} {mv jp sd : Int32} {k : Nat} (hk : k < 3) (ht : isTp w) (hsc : isSc w) (hb : isBd w 34 f n mv jp) (hmv : mv = 0 ∨ mv = 1) : Cl Γ yX6_worthBehind XX6_worthBehind 8 0 0 [.ref 13, .int (nI k), .int sd] w (rP (wB k f n mv jp sd) (fun w1 => Fr w w1 (fun q => 16 ≤ q ∧ q < 43) ∧ isSc w1)) := by
  match k, hk with
  | 0, _ => exact tWorth00 ht hsc hb hmv
  | 1, _ => exact tWorth01 ht hsc hb hmv
  | 2, _ => exact tWorth02 ht hsc hb hmv
theorem tWorthN {Γ : CT} {w : PW} {f n : Nat → Int32} {mv jp sd : Int32} {k : Nat} (hk : k < 2) (ht : isTp w) (hsc : isSc w) (hb : isBd w 25 f n mv jp) (hmv : mv = 0 ∨ mv = 1) : Cl Γ yX6_worthBehind XX6_worthBehind 6 0 0 [.ref 14, .int (nI k), .int sd] w (rP (wB k f n mv jp sd) (fun w1 => Fr w w1 (fun q => 16 ≤ q ∧ q < 34) ∧ isSc w1)) := by
  match k, hk with
  | 0, _ => exact tWorth10 ht hsc hb hmv
  | 1, _ => exact tWorth11 ht hsc hb hmv
set_option maxRecDepth 100000 in
theorem tX6_rows {Γ : CT} {w : PW} {f n : Nat → Int32} {mv jp : Int32} {cl lo : Nat → Int32} {ps : List T3} {cs mk qt oc : Int32} {H : List GS} {S : Nat → Option GS} {pf : Nat → Int32} {pn : Nat} {x : Int32} (hr : isRD w (f, n, mv, jp, cl, lo, ps, cs, mk, qt, oc) H S pf pn) (hmv : mv = 0 ∨ mv = 1) : Cl Γ yX6_rows XX6_rows 11 0 0 [.ref 0, .int x] w (if 1 ≤ x ∧ x ≤ 3 then (if oc = 0 then rP (nI (nR (x.toNatClampNeg - 1) f mv jp 20000)) (toRD w (f, n, mv, jp, cl, lo, ps, cs, mk, qt, oc) H S pf pn) else rI 0 w) else rI (-2) w) := by
  refine Cl.of (ls := [some (.ref 0), some (.int x)]) rfl (by decide +kernel) (fun h => by cases h) (Nat.le_of_ble_eq_true rfl) rfl ?_
  obtain ⟨⟨r0, r13, r14, r15⟩, rg, ⟨st, sl, r8, r9, r10, rH, rp, rS, rk⟩, rd, rs⟩ := id hr
  have rG : isGm w 1 f n mv jp cl lo ps cs mk qt oc := rg
  obtain ⟨g1, gb, g5, g6, gl, pfG, gO, g7⟩ := id rG
  have gb0 := gb.1
  have rd0 := rd.1
  obtain ⟨⟨f1, n1, v1, p1, s34⟩, -⟩ := id rs
  refine r_iload_n 1 dX6_rows_0 rfl rfl ?_
  refine r_iconst (v := 1) 2 dX6_rows_1 rfl (by decide) ?_
  refine r_icmp_lt 10 5 dX6_rows_2 (by decide) rfl (fun q2 => ?_) (fun q2 => ?_)
  · refine r_bipush (v := (-2)) 12 dX6_rows_10 rfl (by decide) ?_
    refine r_iret dX6_rows_12 rfl (by decide) (by decide) ?_
    rw [if_neg (by first | exact (fun z => Int32.not_lt.mpr z.1 q2) | exact (fun z => q7 z.2))]
    exact ⟨rfl, rfl⟩
  · refine r_iload_n 6 dX6_rows_5 rfl rfl ?_
    refine r_iconst (v := 3) 7 dX6_rows_6 rfl (by decide) ?_
    refine r_icmp_le 13 10 dX6_rows_7 (by decide) rfl (fun q7 => ?_) (fun q7 => ?_)
    · have hx : 1 ≤ x ∧ x ≤ 3 := ⟨Int32.not_lt.mp q2, q7⟩
      obtain ⟨k, hk, hxk, hxc⟩ := i3 hx
      refine r_aload_n 14 dX6_rows_13 rfl rfl rfl ?_
      refine r_getf 17 dX6_rows_14 rfl f_X6_10.r (by repeat (first | assumption | exact isBd.o (by assumption) | exact isHp.o (by assumption) | exact isGm.o (by assumption) | exact isPd.o (by assumption) | refine gs_eq ?_ | refine gs_ne (by omega) ?_ | exact is_of (by assumption) | refine gs_is ?_)) rfl ?_
      refine r_getf 20 dX6_rows_17 rfl f_X6_105.r (by repeat (first | assumption | exact isBd.o (by assumption) | exact isHp.o (by assumption) | exact isGm.o (by assumption) | exact isPd.o (by assumption) | refine gs_eq ?_ | refine gs_ne (by omega) ?_ | exact is_of (by assumption) | refine gs_is ?_)) rfl ?_
      refine r_if_eq 25 23 dX6_rows_20 (by decide) rfl (fun q20 => ?_) (fun q20 => ?_)
      · refine r_aload_n 26 dX6_rows_25 rfl rfl rfl ?_
        refine r_getf 29 dX6_rows_26 rfl f_X6_39.r (by repeat (first | assumption | exact isBd.o (by assumption) | exact isHp.o (by assumption) | exact isGm.o (by assumption) | exact isPd.o (by assumption) | refine gs_eq ?_ | refine gs_ne (by omega) ?_ | exact is_of (by assumption) | refine gs_is ?_)) rfl ?_
        refine r_getf 32 dX6_rows_29 rfl f_X6_204 (by repeat (first | assumption | exact isBd.o (by assumption) | exact isHp.o (by assumption) | exact isGm.o (by assumption) | exact isPd.o (by assumption) | refine gs_eq ?_ | refine gs_ne (by omega) ?_ | exact is_of (by assumption) | refine gs_is ?_)) rfl ?_
        refine r_aload_n 33 dX6_rows_32 rfl rfl rfl ?_
        refine r_getf 36 dX6_rows_33 rfl f_X6_10.r (by repeat (first | assumption | exact isBd.o (by assumption) | exact isHp.o (by assumption) | exact isGm.o (by assumption) | exact isPd.o (by assumption) | refine gs_eq ?_ | refine gs_ne (by omega) ?_ | exact is_of (by assumption) | refine gs_is ?_)) rfl ?_
        refine r_getf 39 dX6_rows_36 rfl f_X6_55 (by repeat (first | assumption | exact isBd.o (by assumption) | exact isHp.o (by assumption) | exact isGm.o (by assumption) | exact isPd.o (by assumption) | refine gs_eq ?_ | refine gs_ne (by omega) ?_ | exact is_of (by assumption) | refine gs_is ?_)) rfl ?_
        refine r_callV0 42 dX6_rows_39 rfl (tX0_copyFrom s34 gb (by decide)) l_X6_205 mX0_copyFrom rfl (by repeat (first | assumption | exact isBd.o (by assumption) | exact isHp.o (by assumption) | exact isGm.o (by assumption) | exact isPd.o (by assumption) | refine gs_eq ?_ | refine gs_ne (by omega) ?_ | exact is_of (by assumption) | refine gs_is ?_)) rfl (by decide) (Nat.le_of_ble_eq_true rfl) (by decide) (qN fun w1 h1 => ?_)
        have hA1 : ∀ q, (q < 34 ∨ 37 ≤ q) → w1[q]? = w[q]? := fun q a => h1.1.2 q (by unfold bS; omega)
        have e0 := (hA1 0 (by decide)).trans r0
        have e13 := (hA1 13 (by decide)).trans r13
        have ht1 : isTp w1 := isTp.fr ⟨r0, r13, r14, r15⟩ (fun q a => hA1 q (by omega))
        have hs1 : isSc w1 := rs.of (pb := 34) (ph := 37) (by decide) ⟨_, _, _, _, h1.2⟩ (rs.2.1.ag (fun q a b => hA1 q (by omega))) (fun q a b c => hA1 q (by omega))
        have hFs : Fr w w1 (fun q => 16 ≤ q ∧ q < 43) := h1.1.mono (fun q a => ⟨by have := a.1; omega, by have := a.2; omega⟩)
        have e34 := h1.2.1
        refine r_aload_n 43 dX6_rows_42 rfl rfl rfl ?_
        refine r_getf 46 dX6_rows_43 rfl f_X6_39.r (by repeat (first | assumption | exact isBd.o (by assumption) | exact isHp.o (by assumption) | exact isGm.o (by assumption) | exact isPd.o (by assumption) | refine gs_eq ?_ | refine gs_ne (by omega) ?_ | exact is_of (by assumption) | refine gs_is ?_)) rfl ?_
        refine r_iload_n 47 dX6_rows_46 rfl rfl ?_
        refine r_sipush (v := nI 20000) 50 dX6_rows_47 rfl (by decide) ?_
        rw [hxk]
        refine r_callS0 53 dX6_rows_50 rfl (tRows hk ht1 hs1 h1.2 hmv) l_X6_209 mX6_numberOfRows rfl (by decide) (Nat.le_of_ble_eq_true rfl) (by decide) (qP fun w2 h2 => ?_)
        refine r_iret dX6_rows_53 rfl (by decide) (by decide) ?_
        rw [← hxk, if_pos hx, if_pos q20, hxc, Nat.add_sub_cancel]
        exact ⟨rfl, hr.scr (hFs.tr h2.1) h2.2⟩
      · refine r_iconst (v := 0) 24 dX6_rows_23 rfl (by decide) ?_
        refine r_iret dX6_rows_24 rfl (by decide) (by decide) ?_
        rw [if_pos hx, if_neg q20]
        exact ⟨rfl, rfl⟩
    · refine r_bipush (v := (-2)) 12 dX6_rows_10 rfl (by decide) ?_
      refine r_iret dX6_rows_12 rfl (by decide) (by decide) ?_
      rw [if_neg (by first | exact (fun z => Int32.not_lt.mpr z.1 q2) | exact (fun z => q7 z.2))]
      exact ⟨rfl, rfl⟩

set_option maxRecDepth 100000 in
theorem tX6_worth {Γ : CT} {w : PW} {f n : Nat → Int32} {mv jp : Int32} {cl lo : Nat → Int32} {ps : List T3} {cs mk qt oc : Int32} {H : List GS} {S : Nat → Option GS} {pf : Nat → Int32} {pn : Nat} {x : Int32} (hr : isRD w (f, n, mv, jp, cl, lo, ps, cs, mk, qt, oc) H S pf pn) (hmv : mv = 0 ∨ mv = 1) : Cl Γ yX6_worth XX6_worth 11 0 0 [.ref 0, .int x] w (if 0 ≤ x ∧ x ≤ 2 then (if oc = 0 then rP (1000 + wB x.toNatClampNeg f n mv jp mv) (toRD w (f, n, mv, jp, cl, lo, ps, cs, mk, qt, oc) H S pf pn) else rI (-5) w) else rI (-2) w) := by
  refine Cl.of (ls := [some (.ref 0), some (.int x)]) rfl (by decide +kernel) (fun h => by cases h) (Nat.le_of_ble_eq_true rfl) rfl ?_
  obtain ⟨⟨r0, r13, r14, r15⟩, rg, ⟨st, sl, r8, r9, r10, rH, rp, rS, rk⟩, rd, rs⟩ := id hr
  have rG : isGm w 1 f n mv jp cl lo ps cs mk qt oc := rg
  obtain ⟨g1, gb, g5, g6, gl, pfG, gO, g7⟩ := id rG
  have gb0 := gb.1
  have rd0 := rd.1
  obtain ⟨⟨f1, n1, v1, p1, s34⟩, -⟩ := id rs
  refine r_iload_n 1 dX6_worth_0 rfl rfl ?_
  refine r_if_lt 9 4 dX6_worth_1 (by decide) rfl (fun q1 => ?_) (fun q1 => ?_)
  · refine r_bipush (v := (-2)) 11 dX6_worth_9 rfl (by decide) ?_
    refine r_iret dX6_worth_11 rfl (by decide) (by decide) ?_
    rw [if_neg (by first | exact (fun z => Int32.not_lt.mpr z.1 q1) | exact (fun z => q6 z.2))]
    exact ⟨rfl, rfl⟩
  · refine r_iload_n 5 dX6_worth_4 rfl rfl ?_
    refine r_iconst (v := 2) 6 dX6_worth_5 rfl (by decide) ?_
    refine r_icmp_le 12 9 dX6_worth_6 (by decide) rfl (fun q6 => ?_) (fun q6 => ?_)
    · have hx : 0 ≤ x ∧ x ≤ 2 := ⟨Int32.not_lt.mp q1, q6⟩
      obtain ⟨k, hk, hxk, hxc⟩ := i2 hx
      refine r_aload_n 13 dX6_worth_12 rfl rfl rfl ?_
      refine r_getf 16 dX6_worth_13 rfl f_X6_10.r (by repeat (first | assumption | exact isBd.o (by assumption) | exact isHp.o (by assumption) | exact isGm.o (by assumption) | exact isPd.o (by assumption) | refine gs_eq ?_ | refine gs_ne (by omega) ?_ | exact is_of (by assumption) | refine gs_is ?_)) rfl ?_
      refine r_getf 19 dX6_worth_16 rfl f_X6_105.r (by repeat (first | assumption | exact isBd.o (by assumption) | exact isHp.o (by assumption) | exact isGm.o (by assumption) | exact isPd.o (by assumption) | refine gs_eq ?_ | refine gs_ne (by omega) ?_ | exact is_of (by assumption) | refine gs_is ?_)) rfl ?_
      refine r_if_eq 25 22 dX6_worth_19 (by decide) rfl (fun q19 => ?_) (fun q19 => ?_)
      · refine r_aload_n 26 dX6_worth_25 rfl rfl rfl ?_
        refine r_getf 29 dX6_worth_26 rfl f_X6_39.r (by repeat (first | assumption | exact isBd.o (by assumption) | exact isHp.o (by assumption) | exact isGm.o (by assumption) | exact isPd.o (by assumption) | refine gs_eq ?_ | refine gs_ne (by omega) ?_ | exact is_of (by assumption) | refine gs_is ?_)) rfl ?_
        refine r_getf 32 dX6_worth_29 rfl f_X6_204 (by repeat (first | assumption | exact isBd.o (by assumption) | exact isHp.o (by assumption) | exact isGm.o (by assumption) | exact isPd.o (by assumption) | refine gs_eq ?_ | refine gs_ne (by omega) ?_ | exact is_of (by assumption) | refine gs_is ?_)) rfl ?_
        refine r_aload_n 33 dX6_worth_32 rfl rfl rfl ?_
        refine r_getf 36 dX6_worth_33 rfl f_X6_10.r (by repeat (first | assumption | exact isBd.o (by assumption) | exact isHp.o (by assumption) | exact isGm.o (by assumption) | exact isPd.o (by assumption) | refine gs_eq ?_ | refine gs_ne (by omega) ?_ | exact is_of (by assumption) | refine gs_is ?_)) rfl ?_
        refine r_getf 39 dX6_worth_36 rfl f_X6_55 (by repeat (first | assumption | exact isBd.o (by assumption) | exact isHp.o (by assumption) | exact isGm.o (by assumption) | exact isPd.o (by assumption) | refine gs_eq ?_ | refine gs_ne (by omega) ?_ | exact is_of (by assumption) | refine gs_is ?_)) rfl ?_
        refine r_callV0 42 dX6_worth_39 rfl (tX0_copyFrom s34 gb (by decide)) l_X6_205 mX0_copyFrom rfl (by repeat (first | assumption | exact isBd.o (by assumption) | exact isHp.o (by assumption) | exact isGm.o (by assumption) | exact isPd.o (by assumption) | refine gs_eq ?_ | refine gs_ne (by omega) ?_ | exact is_of (by assumption) | refine gs_is ?_)) rfl (by decide) (Nat.le_of_ble_eq_true rfl) (by decide) (qN fun w1 h1 => ?_)
        have hA1 : ∀ q, (q < 34 ∨ 37 ≤ q) → w1[q]? = w[q]? := fun q a => h1.1.2 q (by unfold bS; omega)
        have e0 := (hA1 0 (by decide)).trans r0
        have e13 := (hA1 13 (by decide)).trans r13
        have ht1 : isTp w1 := isTp.fr ⟨r0, r13, r14, r15⟩ (fun q a => hA1 q (by omega))
        have hs1 : isSc w1 := rs.of (pb := 34) (ph := 37) (by decide) ⟨_, _, _, _, h1.2⟩ (rs.2.1.ag (fun q a b => hA1 q (by omega))) (fun q a b c => hA1 q (by omega))
        have hFs : Fr w w1 (fun q => 16 ≤ q ∧ q < 43) := h1.1.mono (fun q a => ⟨by have := a.1; omega, by have := a.2; omega⟩)
        have e34 := h1.2.1
        refine r_sipush (v := 1000) 45 dX6_worth_42 rfl (by decide) ?_
        refine r_aload_n 46 dX6_worth_45 rfl rfl rfl ?_
        refine r_getf 49 dX6_worth_46 rfl f_X6_39.r (by repeat (first | assumption | exact isBd.o (by assumption) | exact isHp.o (by assumption) | exact isGm.o (by assumption) | exact isPd.o (by assumption) | refine gs_eq ?_ | refine gs_ne (by omega) ?_ | exact is_of (by assumption) | refine gs_is ?_)) rfl ?_
        refine r_iload_n 50 dX6_worth_49 rfl rfl ?_
        refine r_aload_n 51 dX6_worth_50 rfl rfl rfl ?_
        refine r_getf 54 dX6_worth_51 rfl f_X6_39.r (by repeat (first | assumption | exact isBd.o (by assumption) | exact isHp.o (by assumption) | exact isGm.o (by assumption) | exact isPd.o (by assumption) | refine gs_eq ?_ | refine gs_ne (by omega) ?_ | exact is_of (by assumption) | refine gs_is ?_)) rfl ?_
        refine r_getf 57 dX6_worth_54 rfl f_X6_204 (by repeat (first | assumption | exact isBd.o (by assumption) | exact isHp.o (by assumption) | exact isGm.o (by assumption) | exact isPd.o (by assumption) | refine gs_eq ?_ | refine gs_ne (by omega) ?_ | exact is_of (by assumption) | refine gs_is ?_)) rfl ?_
        refine r_getf 60 dX6_worth_57 rfl f_X6_89.r (by repeat (first | assumption | exact isBd.o (by assumption) | exact isHp.o (by assumption) | exact isGm.o (by assumption) | exact isPd.o (by assumption) | refine gs_eq ?_ | refine gs_ne (by omega) ?_ | exact is_of (by assumption) | refine gs_is ?_)) rfl ?_
        rw [hxk]
        refine r_callS0 63 dX6_worth_60 rfl (tWorth hk ht1 hs1 h1.2 hmv) l_X6_213 mX6_worthBehind rfl (by decide) (Nat.le_of_ble_eq_true rfl) (by decide) (qP fun w2 h2 => ?_)
        refine r_iadd 64 dX6_worth_63 rfl ?_
        refine r_iret dX6_worth_64 rfl (by decide) (by decide) ?_
        rw [← hxk, if_pos hx, if_pos q19, hxc]
        exact ⟨rfl, hr.scr (hFs.tr h2.1) h2.2⟩
      · refine r_bipush (v := (-5)) 24 dX6_worth_22 rfl (by decide) ?_
        refine r_iret dX6_worth_24 rfl (by decide) (by decide) ?_
        rw [if_pos hx, if_neg q19]
        exact ⟨rfl, rfl⟩
    · refine r_bipush (v := (-2)) 11 dX6_worth_9 rfl (by decide) ?_
      refine r_iret dX6_worth_11 rfl (by decide) (by decide) ?_
      rw [if_neg (by first | exact (fun z => Int32.not_lt.mpr z.1 q1) | exact (fun z => q6 z.2))]
      exact ⟨rfl, rfl⟩

def btO (g : HP → Int32) : List HP → Nat → Nat → Int32 → Nat
  | [], _, best, _ => best
  | q :: t, i, best, gr => if i = 0 ∨ gr < g q then btO g t (i + 1) i (g q) else btO g t (i + 1) best gr
set_option maxRecDepth 100000 in
theorem tX6_best {Γ : CT} {w : PW} {f n : Nat → Int32} {mv jp : Int32} {cl lo : Nat → Int32} {ps : List T3} {cs mk qt oc : Int32} {H : List GS} {S : Nat → Option GS} {pf : Nat → Int32} {pn : Nat} {x : Int32} (hr : isRD w (f, n, mv, jp, cl, lo, ps, cs, mk, qt, oc) H S pf pn) (hmv : mv = 0 ∨ mv = 1) : Cl Γ yX6_best XX6_best 11 0 0 [.ref 0, .int x] w (if 1 ≤ x ∧ x ≤ 2 then (if oc = 0 then rP (nI (btO (fun q => wB (x.toNatClampNeg - 1) (mkF f mv q) (mkN f n mv q) (mkM f mv q) (mkJ f mv q) mv) (hopsN f mv jp oc) 0 0 0)) (toRD w (f, n, mv, jp, cl, lo, ps, cs, mk, qt, oc) H S pf pn) else rI (-5) w) else rI (-2) w) := by
  refine Cl.of (ls := [some (.ref 0), some (.int x), none, none, none, none, none]) rfl (by decide +kernel) (fun h => by cases h) (Nat.le_of_ble_eq_true rfl) rfl ?_
  obtain ⟨⟨r0, r13, r14, r15⟩, rg, ⟨st, sl, r8, r9, r10, rH, rp, rS, rk⟩, rd, rs⟩ := id hr
  have rG : isGm w 1 f n mv jp cl lo ps cs mk qt oc := rg
  obtain ⟨g1, gb, g5, g6, gl, pfG, gO, g7⟩ := id rG
  have gb0 := gb.1
  have rd0 := rd.1
  have mainloop : ∀ (k : Nat), k < 2 → x = nI (k + 1) → x.toNatClampNeg = k + 1 → (1 ≤ x ∧ x ≤ 2) → oc = 0 → ∀ (m i : Nat) (u : PW) (best : Nat) (gr : Int32) (x6 : Option Value), i + m = (hopsN f mv jp oc).length → (Fr w u (fun q => 16 ≤ q ∧ q < 43)) → (isTp u) → (isSc u) → (isBd u 34 f n mv jp) → (isHp u 37 (hopsN f mv jp oc)) → (nl x6 = true) → (btO (fun q => wB k (mkF f mv q) (mkN f n mv q) (mkM f mv q) (mkJ f mv q) mv) ((hopsN f mv jp oc).drop i) i best gr = btO (fun q => wB k (mkF f mv q) (mkN f n mv q) (mkM f mv q) (mkJ f mv q) mv) (hopsN f mv jp oc) 0 0 0) → Rn Γ XX6_best (rmO 11 0 0) none (FinM (if 1 ≤ x ∧ x ≤ 2 then (if oc = 0 then rP (nI (btO (fun q => wB (x.toNatClampNeg - 1) (mkF f mv q) (mkN f n mv q) (mkM f mv q) (mkJ f mv q) mv) (hopsN f mv jp oc) 0 0 0)) (toRD w (f, n, mv, jp, cl, lo, ps, cs, mk, qt, oc) H S pf pn) else rI (-5) w) else rI (-2) w) 0 0) 0 0 u 42 [some (.ref 0), some (.int x), some (.int (nI best)), some (.int gr), some (.int (nI (hopsN f mv jp oc).length)), some (.int (nI i)), x6] [] := by
    intro k hk hxk hxc hx ho
    intro m
    induction m with
    | zero =>
      intro i u best gr x6 hi hF hut hus hub huh e6 hR
      have h9 : i = (hopsN f mv jp oc).length := by omega
      subst h9
      have hl9 := huh.1
      rw [List.drop_length] at hR
      refine r_iload 44 dX6_best_42 rfl rfl ?_
      refine r_iload 46 dX6_best_44 rfl rfl ?_
      refine r_icmp_ge 106 49 dX6_best_46 (by decide) rfl (fun q46 => ?_) (fun q46 => absurd q46 (fun z => z (nI_le (by omega) (by omega))))
      refine r_iload_n 107 dX6_best_106 rfl rfl ?_
      refine r_iret dX6_best_107 rfl (by decide) (by decide) ?_
      rw [if_pos hx, if_pos ho, hxc, Nat.add_sub_cancel, ← hR]
      exact ⟨rfl, hr.scr hF hus⟩
    | succ m ih =>
      intro i u best gr x6 hi hF hut hus hub huh e6 hR
      have hl9 := huh.1
      have hut0 := hut.1
      have hut13 := hut.2.1
      have hub0 := hub.1
      obtain ⟨q, hq, hdr⟩ := drop_c (l := hopsN f mv jp oc) (i := i) (by omega)
      rw [hdr, btO] at hR
      obtain ⟨hfr, hto, hsd⟩ := hopsN_to hq
      obtain ⟨f2, n2, v2, p2, hnb⟩ := hus.2.2.1
      refine r_iload 44 dX6_best_42 rfl rfl ?_
      refine r_iload 46 dX6_best_44 rfl rfl ?_
      refine r_icmp_ge 106 49 dX6_best_46 (by decide) rfl (fun q46 => absurd q46 (nI_ge (by omega) (by omega))) (fun q46 => ?_)
      refine r_aload_n 50 dX6_best_49 rfl rfl rfl ?_
      refine r_getf 53 dX6_best_50 rfl f_X6_39.r (by repeat (first | assumption | exact isBd.o (by assumption) | exact isHp.o (by assumption) | exact isGm.o (by assumption) | exact isPd.o (by assumption) | refine gs_eq ?_ | refine gs_ne (by omega) ?_ | exact is_of (by assumption) | refine gs_is ?_)) rfl ?_
      refine r_iload 55 dX6_best_53 rfl rfl ?_
      refine r_callV0 58 dX6_best_55 rfl (tX5_tryHop (y1 := 14) (nb := 25) (nh := 28) hut13 hut.2.2.1 hub huh hnb hq hto hfr (by decide) (by unfold apH; decide) (by decide) (by decide)) l_X6_216 mX5_tryHop rfl (by repeat (first | assumption | exact isBd.o (by assumption) | exact isHp.o (by assumption) | exact isGm.o (by assumption) | exact isPd.o (by assumption) | refine gs_eq ?_ | refine gs_ne (by omega) ?_ | exact is_of (by assumption) | refine gs_is ?_)) rfl (by decide) (Nat.le_of_ble_eq_true rfl) (by decide) (qN fun w1 h1 => ?_)
      have hA1 : ∀ q, (q < 25 ∨ 28 ≤ q) → w1[q]? = u[q]? := fun q a => h1.1.2 q (by unfold bS; omega)
      have hut1 := hut.fr (fun q a => hA1 q (by omega))
      have hus1 : isSc w1 := hus.of (pb := 25) (ph := 28) (by decide) ⟨_, _, _, _, h1.2⟩ (xHp.ag hus.2.2.2.1 (fun q a b => hA1 q (by omega))) (fun q a b c => hA1 q (by omega))
      have e0 := hut1.1
      have e13 := hut1.2.1
      have hub1 := hub.ag (fun q a b => hA1 q (by omega))
      have e34 := hub1.1
      refine r_aload_n 59 dX6_best_58 rfl rfl rfl ?_
      refine r_getf 62 dX6_best_59 rfl f_X6_39.r (by repeat (first | assumption | exact isBd.o (by assumption) | exact isHp.o (by assumption) | exact isGm.o (by assumption) | exact isPd.o (by assumption) | refine gs_eq ?_ | refine gs_ne (by omega) ?_ | exact is_of (by assumption) | refine gs_is ?_)) rfl ?_
      refine r_getf 65 dX6_best_62 rfl f_X6_220 (by repeat (first | assumption | exact isBd.o (by assumption) | exact isHp.o (by assumption) | exact isGm.o (by assumption) | exact isPd.o (by assumption) | refine gs_eq ?_ | refine gs_ne (by omega) ?_ | exact is_of (by assumption) | refine gs_is ?_)) rfl ?_
      refine r_iload_n 66 dX6_best_65 rfl rfl ?_
      refine r_iconst (v := nI 1) 67 dX6_best_66 rfl (by decide) ?_
      refine r_isub 68 dX6_best_67 rfl ?_
      refine r_aload_n 69 dX6_best_68 rfl rfl rfl ?_
      refine r_getf 72 dX6_best_69 rfl f_X6_39.r (by repeat (first | assumption | exact isBd.o (by assumption) | exact isHp.o (by assumption) | exact isGm.o (by assumption) | exact isPd.o (by assumption) | refine gs_eq ?_ | refine gs_ne (by omega) ?_ | exact is_of (by assumption) | refine gs_is ?_)) rfl ?_
      refine r_getf 75 dX6_best_72 rfl f_X6_204 (by repeat (first | assumption | exact isBd.o (by assumption) | exact isHp.o (by assumption) | exact isGm.o (by assumption) | exact isPd.o (by assumption) | refine gs_eq ?_ | refine gs_ne (by omega) ?_ | exact is_of (by assumption) | refine gs_is ?_)) rfl ?_
      refine r_getf 78 dX6_best_75 rfl f_X6_89.r (by repeat (first | assumption | exact isBd.o (by assumption) | exact isHp.o (by assumption) | exact isGm.o (by assumption) | exact isPd.o (by assumption) | refine gs_eq ?_ | refine gs_ne (by omega) ?_ | exact is_of (by assumption) | refine gs_is ?_)) rfl ?_
      rw [hxk, pk_sub (by omega), Nat.add_sub_cancel]
      refine r_callS0 81 dX6_best_78 rfl (tWorthN hk hut1 hus1 h1.2 (mkM_01 hmv)) l_X6_213 mX6_worthBehind rfl (by decide) (Nat.le_of_ble_eq_true rfl) (by decide) (qP fun w2 h2 => ?_)
      have hA2 : ∀ q, (q < 16 ∨ 34 ≤ q) → w2[q]? = w1[q]? := fun q a => h2.1.2 q (by omega)
      have hFF := (hF.tr (h1.1.mono (fun q a => ⟨by have := a.1; omega, by have := a.2; omega⟩))).tr (h2.1.mono (fun q a => ⟨a.1, by have := a.2; omega⟩))
      rw [← hxk]
      refine r_istore (ls1 := [_, _, _, _, _, _, _]) 83 dX6_best_81 rfl (by decide) rfl rfl ?_
      refine r_iload 85 dX6_best_83 rfl rfl ?_
      refine r_if_eq 94 88 dX6_best_85 (by decide) rfl (fun q85 => ?_) (fun q85 => ?_)
      · refine r_iload 96 dX6_best_94 rfl rfl ?_
        refine r_istore_n (ls1 := [_, _, _, _, _, _, _]) 97 dX6_best_96 rfl (by decide) rfl rfl ?_
        refine r_iload 99 dX6_best_97 rfl rfl ?_
        refine r_istore_n (ls1 := [_, _, _, _, _, _, _]) 100 dX6_best_99 rfl (by decide) rfl rfl ?_
        refine r_iinc (ls1 := [_, _, _, _, _, _, _]) 103 dX6_best_100 rfl (by decide) rfl rfl (nI_1 i) rfl ?_
        refine r_goto 42 dX6_best_103 (by decide) ?_
        first
          | exact ih (i + 1) w2 _ _ _ (by omega) hFF (hut1.fr (fun q a => hA2 q (by omega))) h2.2 (hub1.ag (fun q a b => hA2 q (by omega))) (huh.ag (fun q a b => (hA2 q (by omega)).trans (hA1 q (by omega)))) rfl (by rw [← hR, if_pos (Or.inl (nI_z (by omega) q85))])
          | exact ih (i + 1) w2 _ _ _ (by omega) hFF (hut1.fr (fun q a => hA2 q (by omega))) h2.2 (hub1.ag (fun q a b => hA2 q (by omega))) (huh.ag (fun q a b => (hA2 q (by omega)).trans (hA1 q (by omega)))) rfl (by rw [← hR, if_pos (Or.inr (Int32.not_le.mp q91))])
          | exact ih (i + 1) w2 _ _ _ (by omega) hFF (hut1.fr (fun q a => hA2 q (by omega))) h2.2 (hub1.ag (fun q a b => hA2 q (by omega))) (huh.ag (fun q a b => (hA2 q (by omega)).trans (hA1 q (by omega)))) rfl (by rw [← hR, if_neg (fun z => z.elim (fun a => q85 (by rw [a]; rfl)) (fun a => Int32.not_lt.mpr q91 a))])
      · refine r_iload 90 dX6_best_88 rfl rfl ?_
        refine r_iload_n 91 dX6_best_90 rfl rfl ?_
        refine r_icmp_le 100 94 dX6_best_91 (by decide) rfl (fun q91 => ?_) (fun q91 => ?_)
        · refine r_iinc (ls1 := [_, _, _, _, _, _, _]) 103 dX6_best_100 rfl (by decide) rfl rfl (nI_1 i) rfl ?_
          refine r_goto 42 dX6_best_103 (by decide) ?_
          first
            | exact ih (i + 1) w2 _ _ _ (by omega) hFF (hut1.fr (fun q a => hA2 q (by omega))) h2.2 (hub1.ag (fun q a b => hA2 q (by omega))) (huh.ag (fun q a b => (hA2 q (by omega)).trans (hA1 q (by omega)))) rfl (by rw [← hR, if_pos (Or.inl (nI_z (by omega) q85))])
            | exact ih (i + 1) w2 _ _ _ (by omega) hFF (hut1.fr (fun q a => hA2 q (by omega))) h2.2 (hub1.ag (fun q a b => hA2 q (by omega))) (huh.ag (fun q a b => (hA2 q (by omega)).trans (hA1 q (by omega)))) rfl (by rw [← hR, if_pos (Or.inr (Int32.not_le.mp q91))])
            | exact ih (i + 1) w2 _ _ _ (by omega) hFF (hut1.fr (fun q a => hA2 q (by omega))) h2.2 (hub1.ag (fun q a b => hA2 q (by omega))) (huh.ag (fun q a b => (hA2 q (by omega)).trans (hA1 q (by omega)))) rfl (by rw [← hR, if_neg (fun z => z.elim (fun a => q85 (by rw [a]; rfl)) (fun a => Int32.not_lt.mpr q91 a))])
        · refine r_iload 96 dX6_best_94 rfl rfl ?_
          refine r_istore_n (ls1 := [_, _, _, _, _, _, _]) 97 dX6_best_96 rfl (by decide) rfl rfl ?_
          refine r_iload 99 dX6_best_97 rfl rfl ?_
          refine r_istore_n (ls1 := [_, _, _, _, _, _, _]) 100 dX6_best_99 rfl (by decide) rfl rfl ?_
          refine r_iinc (ls1 := [_, _, _, _, _, _, _]) 103 dX6_best_100 rfl (by decide) rfl rfl (nI_1 i) rfl ?_
          refine r_goto 42 dX6_best_103 (by decide) ?_
          first
            | exact ih (i + 1) w2 _ _ _ (by omega) hFF (hut1.fr (fun q a => hA2 q (by omega))) h2.2 (hub1.ag (fun q a b => hA2 q (by omega))) (huh.ag (fun q a b => (hA2 q (by omega)).trans (hA1 q (by omega)))) rfl (by rw [← hR, if_pos (Or.inl (nI_z (by omega) q85))])
            | exact ih (i + 1) w2 _ _ _ (by omega) hFF (hut1.fr (fun q a => hA2 q (by omega))) h2.2 (hub1.ag (fun q a b => hA2 q (by omega))) (huh.ag (fun q a b => (hA2 q (by omega)).trans (hA1 q (by omega)))) rfl (by rw [← hR, if_pos (Or.inr (Int32.not_le.mp q91))])
            | exact ih (i + 1) w2 _ _ _ (by omega) hFF (hut1.fr (fun q a => hA2 q (by omega))) h2.2 (hub1.ag (fun q a b => hA2 q (by omega))) (huh.ag (fun q a b => (hA2 q (by omega)).trans (hA1 q (by omega)))) rfl (by rw [← hR, if_neg (fun z => z.elim (fun a => q85 (by rw [a]; rfl)) (fun a => Int32.not_lt.mpr q91 a))])
  refine r_iload_n 1 dX6_best_0 rfl rfl ?_
  refine r_iconst (v := 1) 2 dX6_best_1 rfl (by decide) ?_
  refine r_icmp_lt 10 5 dX6_best_2 (by decide) rfl (fun q2 => ?_) (fun q2 => ?_)
  · refine r_bipush (v := (-2)) 12 dX6_best_10 rfl (by decide) ?_
    refine r_iret dX6_best_12 rfl (by decide) (by decide) ?_
    rw [if_neg (by first | exact (fun z => Int32.not_lt.mpr z.1 q2) | exact (fun z => q7 z.2))]
    exact ⟨rfl, rfl⟩
  · refine r_iload_n 6 dX6_best_5 rfl rfl ?_
    refine r_iconst (v := 2) 7 dX6_best_6 rfl (by decide) ?_
    refine r_icmp_le 13 10 dX6_best_7 (by decide) rfl (fun q7 => ?_) (fun q7 => ?_)
    · have hx : 1 ≤ x ∧ x ≤ 2 := ⟨Int32.not_lt.mp q2, q7⟩
      obtain ⟨k, hk, hxk, hxc⟩ := i12 hx
      refine r_aload_n 14 dX6_best_13 rfl rfl rfl ?_
      refine r_getf 17 dX6_best_14 rfl f_X6_10.r (by repeat (first | assumption | exact isBd.o (by assumption) | exact isHp.o (by assumption) | exact isGm.o (by assumption) | exact isPd.o (by assumption) | refine gs_eq ?_ | refine gs_ne (by omega) ?_ | exact is_of (by assumption) | refine gs_is ?_)) rfl ?_
      refine r_getf 20 dX6_best_17 rfl f_X6_105.r (by repeat (first | assumption | exact isBd.o (by assumption) | exact isHp.o (by assumption) | exact isGm.o (by assumption) | exact isPd.o (by assumption) | refine gs_eq ?_ | refine gs_ne (by omega) ?_ | exact is_of (by assumption) | refine gs_is ?_)) rfl ?_
      refine r_if_eq 26 23 dX6_best_20 (by decide) rfl (fun q20 => ?_) (fun q20 => ?_)
      · refine r_iconst (v := nI 0) 27 dX6_best_26 rfl (by decide) ?_
        refine r_istore_n (ls1 := [_, _, _, _, _, _, _]) 28 dX6_best_27 rfl (by decide) rfl rfl ?_
        refine r_iconst (v := 0) 29 dX6_best_28 rfl (by decide) ?_
        refine r_istore_n (ls1 := [_, _, _, _, _, _, _]) 30 dX6_best_29 rfl (by decide) rfl rfl ?_
        refine r_aload_n 31 dX6_best_30 rfl rfl rfl ?_
        refine r_callV0 34 dX6_best_31 rfl (tX6_hopsOfNow hr hmv) l_X6_92 mX6_hopsOfNow rfl (by repeat (first | assumption | exact isBd.o (by assumption) | exact isHp.o (by assumption) | exact isGm.o (by assumption) | exact isPd.o (by assumption) | refine gs_eq ?_ | refine gs_ne (by omega) ?_ | exact is_of (by assumption) | refine gs_is ?_)) rfl (by decide) (Nat.le_of_ble_eq_true rfl) (by decide) (qRP fun w1 hk1 => ?_)
        have hh10 := hk1.2.2.1.o
        refine r_getf 37 dX6_best_34 rfl f_X6_188.r (by repeat (first | assumption | exact isBd.o (by assumption) | exact isHp.o (by assumption) | exact isGm.o (by assumption) | exact isPd.o (by assumption) | refine gs_eq ?_ | refine gs_ne (by omega) ?_ | exact is_of (by assumption) | refine gs_is ?_)) rfl ?_
        refine r_istore (ls1 := [_, _, _, _, _, _, _]) 39 dX6_best_37 rfl (by decide) rfl rfl ?_
        refine r_iconst (v := nI 0) 40 dX6_best_39 rfl (by decide) ?_
        refine r_istore (ls1 := [_, _, _, _, _, _, _]) 42 dX6_best_40 rfl (by decide) rfl rfl ?_
        exact mainloop k hk hxk hxc hx q20 (hopsN f mv jp oc).length 0 w1 0 0 _ (by omega) hk1.1 (isTp.fr ⟨r0, r13, r14, r15⟩ (fun q a => hk1.1.2 q (by omega))) hk1.2.1 hk1.2.2.2 hk1.2.2.1 rfl rfl
      · refine r_bipush (v := (-5)) 25 dX6_best_23 rfl (by decide) ?_
        refine r_iret dX6_best_25 rfl (by decide) (by decide) ?_
        rw [if_pos hx, if_neg q20]
        exact ⟨rfl, rfl⟩
    · refine r_bipush (v := (-2)) 12 dX6_best_10 rfl (by decide) ?_
      refine r_iret dX6_best_12 rfl (by decide) (by decide) ?_
      rw [if_neg (by first | exact (fun z => Int32.not_lt.mpr z.1 q2) | exact (fun z => q7 z.2))]
      exact ⟨rfl, rfl⟩

