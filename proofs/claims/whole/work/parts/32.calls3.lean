/-! ===== the calls: what there is; hops made ===== -/
theorem hn_rd {w w1 : PW} {f n : Nat → Int32} {mv jp : Int32} {cl lo : Nat → Int32} {ps : List T3} {cs mk qt oc : Int32} {H : List GS} {S : Nat → Option GS} {pf : Nat → Int32} {pn : Nat} (hr : isRD w (f, n, mv, jp, cl, lo, ps, cs, mk, qt, oc) H S pf pn) (h : Fr w w1 (fun q => 16 ≤ q ∧ q < 43) ∧ isSc w1 ∧ isHp w1 37 (hopsN f mv jp oc) ∧ isBd w1 34 f n mv jp) : toRD w (f, n, mv, jp, cl, lo, ps, cs, mk, qt, oc) H S pf pn w1 := hr.scr h.1 h.2.1
theorem hopsN_len {f : Nat → Int32} {mv jp oc : Int32} (h : mv = 0 ∨ mv = 1) : (hopsN f mv jp oc).length ≤ 192 := by
  unfold hopsN
  split
  · exact lenC h
  · exact Nat.zero_le _
theorem hopsN_PH {f : Nat → Int32} {mv jp oc : Int32} {q : HP} (h : q ∈ hopsN f mv jp oc) : PH f mv q := by
  unfold hopsN at h
  split at h
  · exact hopsC_PH h
  · simp at h
theorem hopsN_to {f : Nat → Int32} {mv jp oc : Int32} {q : HP} {j : Nat} (h : (hopsN f mv jp oc)[j]? = some q) : q.1 < 48 ∧ q.2.1 < 48 ∧ sdO (f q.1) = mv := by
  have h1 := hopsN_PH (List.mem_of_getElem? h)
  exact ⟨h1.1, by rw [h1.2.2.2.2.1]; exact nk_lt h1.1, h1.2.2.2.2.2.1⟩
def cntO (f : Nat → Int32) (mv jp : Int32) (ps : List T3) (cs mk qt oc : Int32) (pn hn : Nat) (v : Int32) : Int32 := if v = 0 then oc else if v = 1 then mv else if v = 2 then nI (hopsN f mv jp oc).length else if v = 3 then mk else if v = 4 then jp else if v = 5 then nI (tmN ps) else if v = 6 then qt else if v = 7 then cs else if v = 8 then nI pn else if v = 9 then nI hn else -2
set_option maxRecDepth 100000 in
theorem tX6_count {Γ : CT} {w : PW} {f n : Nat → Int32} {mv jp : Int32} {cl lo : Nat → Int32} {ps : List T3} {cs mk qt oc : Int32} {H : List GS} {S : Nat → Option GS} {pf : Nat → Int32} {pn : Nat} {v : Int32} (hr : isRD w (f, n, mv, jp, cl, lo, ps, cs, mk, qt, oc) H S pf pn) (hmv : mv = 0 ∨ mv = 1) : Cl Γ yX6_count XX6_count 7 0 0 [.ref 0, .int v] w (rP (cntO f mv jp ps cs mk qt oc pn H.length v) (toRD w (f, n, mv, jp, cl, lo, ps, cs, mk, qt, oc) H S pf pn)) := by
  refine Cl.of (ls := [some (.ref 0), some (.int v)]) rfl (by decide +kernel) (fun h => by cases h) (Nat.le_of_ble_eq_true rfl) rfl ?_
  obtain ⟨⟨r0, r13, r14, r15⟩, rg, ⟨st, sl, r8, r9, r10, rH, rp, rS, rk⟩, rd, rs⟩ := id hr
  have rG : isGm w 1 f n mv jp cl lo ps cs mk qt oc := rg
  obtain ⟨g1, gb, g5, g6, gl, pfG, gO, g7⟩ := id rG
  have gb0 := gb.1
  have rd0 := rd.1
  refine r_iload_n 1 dX6_count_0 rfl rfl ?_
  by_cases hs0 : v = 0
  · subst hs0
    refine r_sw_in 56 dX6_count_1 (by decide) (by decide) rfl (by decide) ?_
    refine r_aload_n 57 dX6_count_56 rfl rfl rfl ?_
    refine r_getf 60 dX6_count_57 rfl f_X6_10.r (by repeat (first | assumption | exact isBd.o (by assumption) | exact isHp.o (by assumption) | exact isGm.o (by assumption) | exact isPd.o (by assumption) | refine gs_eq ?_ | refine gs_ne (by omega) ?_ | exact is_of (by assumption) | refine gs_is ?_)) rfl ?_
    refine r_getf 63 dX6_count_60 rfl f_X6_105.r (by repeat (first | assumption | exact isBd.o (by assumption) | exact isHp.o (by assumption) | exact isGm.o (by assumption) | exact isPd.o (by assumption) | refine gs_eq ?_ | refine gs_ne (by omega) ?_ | exact is_of (by assumption) | refine gs_is ?_)) rfl ?_
    refine r_iret dX6_count_63 rfl (by decide) (by decide) ?_
    exact ⟨by simp [cntO], hr.rf⟩
  by_cases hs1 : v = 1
  · subst hs1
    refine r_sw_in 64 dX6_count_1 (by decide) (by decide) rfl (by decide) ?_
    refine r_aload_n 65 dX6_count_64 rfl rfl rfl ?_
    refine r_getf 68 dX6_count_65 rfl f_X6_10.r (by repeat (first | assumption | exact isBd.o (by assumption) | exact isHp.o (by assumption) | exact isGm.o (by assumption) | exact isPd.o (by assumption) | refine gs_eq ?_ | refine gs_ne (by omega) ?_ | exact is_of (by assumption) | refine gs_is ?_)) rfl ?_
    refine r_getf 71 dX6_count_68 rfl f_X6_55 (by repeat (first | assumption | exact isBd.o (by assumption) | exact isHp.o (by assumption) | exact isGm.o (by assumption) | exact isPd.o (by assumption) | refine gs_eq ?_ | refine gs_ne (by omega) ?_ | exact is_of (by assumption) | refine gs_is ?_)) rfl ?_
    refine r_getf 74 dX6_count_71 rfl f_X6_89.r (by repeat (first | assumption | exact isBd.o (by assumption) | exact isHp.o (by assumption) | exact isGm.o (by assumption) | exact isPd.o (by assumption) | refine gs_eq ?_ | refine gs_ne (by omega) ?_ | exact is_of (by assumption) | refine gs_is ?_)) rfl ?_
    refine r_iret dX6_count_74 rfl (by decide) (by decide) ?_
    exact ⟨by simp [cntO], hr.rf⟩
  by_cases hs2 : v = 2
  · subst hs2
    refine r_sw_in 75 dX6_count_1 (by decide) (by decide) rfl (by decide) ?_
    refine r_aload_n 76 dX6_count_75 rfl rfl rfl ?_
    refine r_callV0 79 dX6_count_76 rfl (tX6_hopsOfNow hr hmv) l_X6_92 mX6_hopsOfNow rfl (by repeat (first | assumption | exact isBd.o (by assumption) | exact isHp.o (by assumption) | exact isGm.o (by assumption) | exact isPd.o (by assumption) | refine gs_eq ?_ | refine gs_ne (by omega) ?_ | exact is_of (by assumption) | refine gs_is ?_)) rfl (by decide) (Nat.le_of_ble_eq_true rfl) (by decide) (qRP fun w1 hk => ?_)
    obtain ⟨⟨hr1, hM1⟩, hF1, hsc1, hh1, hb1⟩ : toRD w (f, n, mv, jp, cl, lo, ps, cs, mk, qt, oc) H S pf pn w1 ∧ Fr w w1 (fun q => 16 ≤ q ∧ q < 43) ∧ isSc w1 ∧ isHp w1 37 (hopsN f mv jp oc) ∧ isBd w1 34 f n mv jp := ⟨hn_rd hr hk, hk⟩
    obtain ⟨⟨r01, r131, r141, r151⟩, rg1, ⟨st1, sl1, r81, r91, r101, rH1, rp1, rS1, rk1⟩, rd1, rs1⟩ := id hr1
    have rG1 : isGm w1 1 f n mv jp cl lo ps cs mk qt oc := rg1
    obtain ⟨g11, gb1, g51, g61, gl1, pfG1, gO1, g71⟩ := id rG1
    have gb01 := gb1.1
    have rd01 := rd1.1
    have hh10 := hh1.o
    refine r_getf 82 dX6_count_79 rfl f_X6_188.r (by repeat (first | assumption | exact isBd.o (by assumption) | exact isHp.o (by assumption) | exact isGm.o (by assumption) | exact isPd.o (by assumption) | refine gs_eq ?_ | refine gs_ne (by omega) ?_ | exact is_of (by assumption) | refine gs_is ?_)) rfl ?_
    refine r_iret dX6_count_82 rfl (by decide) (by decide) ?_
    exact ⟨by simp [cntO], hr1, hM1⟩
  by_cases hs3 : v = 3
  · subst hs3
    refine r_sw_in 83 dX6_count_1 (by decide) (by decide) rfl (by decide) ?_
    refine r_aload_n 84 dX6_count_83 rfl rfl rfl ?_
    refine r_getf 87 dX6_count_84 rfl f_X6_10.r (by repeat (first | assumption | exact isBd.o (by assumption) | exact isHp.o (by assumption) | exact isGm.o (by assumption) | exact isPd.o (by assumption) | refine gs_eq ?_ | refine gs_ne (by omega) ?_ | exact is_of (by assumption) | refine gs_is ?_)) rfl ?_
    refine r_getf 90 dX6_count_87 rfl f_X6_191.r (by repeat (first | assumption | exact isBd.o (by assumption) | exact isHp.o (by assumption) | exact isGm.o (by assumption) | exact isPd.o (by assumption) | refine gs_eq ?_ | refine gs_ne (by omega) ?_ | exact is_of (by assumption) | refine gs_is ?_)) rfl ?_
    refine r_iret dX6_count_90 rfl (by decide) (by decide) ?_
    exact ⟨by simp [cntO], hr.rf⟩
  by_cases hs4 : v = 4
  · subst hs4
    refine r_sw_in 91 dX6_count_1 (by decide) (by decide) rfl (by decide) ?_
    refine r_aload_n 92 dX6_count_91 rfl rfl rfl ?_
    refine r_getf 95 dX6_count_92 rfl f_X6_10.r (by repeat (first | assumption | exact isBd.o (by assumption) | exact isHp.o (by assumption) | exact isGm.o (by assumption) | exact isPd.o (by assumption) | refine gs_eq ?_ | refine gs_ne (by omega) ?_ | exact is_of (by assumption) | refine gs_is ?_)) rfl ?_
    refine r_getf 98 dX6_count_95 rfl f_X6_55 (by repeat (first | assumption | exact isBd.o (by assumption) | exact isHp.o (by assumption) | exact isGm.o (by assumption) | exact isPd.o (by assumption) | refine gs_eq ?_ | refine gs_ne (by omega) ?_ | exact is_of (by assumption) | refine gs_is ?_)) rfl ?_
    refine r_getf 101 dX6_count_98 rfl f_X6_194.r (by repeat (first | assumption | exact isBd.o (by assumption) | exact isHp.o (by assumption) | exact isGm.o (by assumption) | exact isPd.o (by assumption) | refine gs_eq ?_ | refine gs_ne (by omega) ?_ | exact is_of (by assumption) | refine gs_is ?_)) rfl ?_
    refine r_iret dX6_count_101 rfl (by decide) (by decide) ?_
    exact ⟨by simp [cntO], hr.rf⟩
  by_cases hs5 : v = 5
  · subst hs5
    refine r_sw_in 102 dX6_count_1 (by decide) (by decide) rfl (by decide) ?_
    refine r_aload_n 103 dX6_count_102 rfl rfl rfl ?_
    refine r_getf 106 dX6_count_103 rfl f_X6_10.r (by repeat (first | assumption | exact isBd.o (by assumption) | exact isHp.o (by assumption) | exact isGm.o (by assumption) | exact isPd.o (by assumption) | refine gs_eq ?_ | refine gs_ne (by omega) ?_ | exact is_of (by assumption) | refine gs_is ?_)) rfl ?_
    refine r_callV0 109 dX6_count_106 rfl (tX1_timesOfNow rG) l_X6_197 mX1_timesOfNow rfl (by repeat (first | assumption | exact isBd.o (by assumption) | exact isHp.o (by assumption) | exact isGm.o (by assumption) | exact isPd.o (by assumption) | refine gs_eq ?_ | refine gs_ne (by omega) ?_ | exact is_of (by assumption) | refine gs_is ?_)) rfl (by decide) (Nat.le_of_ble_eq_true rfl) (by decide) (qI ?_)
    refine r_iret dX6_count_109 rfl (by decide) (by decide) ?_
    exact ⟨by simp [cntO], hr.rf⟩
  by_cases hs6 : v = 6
  · subst hs6
    refine r_sw_in 110 dX6_count_1 (by decide) (by decide) rfl (by decide) ?_
    refine r_aload_n 111 dX6_count_110 rfl rfl rfl ?_
    refine r_getf 114 dX6_count_111 rfl f_X6_10.r (by repeat (first | assumption | exact isBd.o (by assumption) | exact isHp.o (by assumption) | exact isGm.o (by assumption) | exact isPd.o (by assumption) | refine gs_eq ?_ | refine gs_ne (by omega) ?_ | exact is_of (by assumption) | refine gs_is ?_)) rfl ?_
    refine r_getf 117 dX6_count_114 rfl f_X6_200.r (by repeat (first | assumption | exact isBd.o (by assumption) | exact isHp.o (by assumption) | exact isGm.o (by assumption) | exact isPd.o (by assumption) | refine gs_eq ?_ | refine gs_ne (by omega) ?_ | exact is_of (by assumption) | refine gs_is ?_)) rfl ?_
    refine r_iret dX6_count_117 rfl (by decide) (by decide) ?_
    exact ⟨by simp [cntO], hr.rf⟩
  by_cases hs7 : v = 7
  · subst hs7
    refine r_sw_in 118 dX6_count_1 (by decide) (by decide) rfl (by decide) ?_
    refine r_aload_n 119 dX6_count_118 rfl rfl rfl ?_
    refine r_getf 122 dX6_count_119 rfl f_X6_10.r (by repeat (first | assumption | exact isBd.o (by assumption) | exact isHp.o (by assumption) | exact isGm.o (by assumption) | exact isPd.o (by assumption) | refine gs_eq ?_ | refine gs_ne (by omega) ?_ | exact is_of (by assumption) | refine gs_is ?_)) rfl ?_
    refine r_getf 125 dX6_count_122 rfl f_X6_51.r (by repeat (first | assumption | exact isBd.o (by assumption) | exact isHp.o (by assumption) | exact isGm.o (by assumption) | exact isPd.o (by assumption) | refine gs_eq ?_ | refine gs_ne (by omega) ?_ | exact is_of (by assumption) | refine gs_is ?_)) rfl ?_
    refine r_iret dX6_count_125 rfl (by decide) (by decide) ?_
    exact ⟨by simp [cntO], hr.rf⟩
  by_cases hs8 : v = 8
  · subst hs8
    refine r_sw_in 126 dX6_count_1 (by decide) (by decide) rfl (by decide) ?_
    refine r_aload_n 127 dX6_count_126 rfl rfl rfl ?_
    refine r_getf 130 dX6_count_127 rfl f_X6_30.r (by repeat (first | assumption | exact isBd.o (by assumption) | exact isHp.o (by assumption) | exact isGm.o (by assumption) | exact isPd.o (by assumption) | refine gs_eq ?_ | refine gs_ne (by omega) ?_ | exact is_of (by assumption) | refine gs_is ?_)) rfl ?_
    refine r_getf 133 dX6_count_130 rfl f_X6_116.r (by repeat (first | assumption | exact isBd.o (by assumption) | exact isHp.o (by assumption) | exact isGm.o (by assumption) | exact isPd.o (by assumption) | refine gs_eq ?_ | refine gs_ne (by omega) ?_ | exact is_of (by assumption) | refine gs_is ?_)) rfl ?_
    refine r_iret dX6_count_133 rfl (by decide) (by decide) ?_
    exact ⟨by simp [cntO], hr.rf⟩
  by_cases hs9 : v = 9
  · subst hs9
    refine r_sw_in 134 dX6_count_1 (by decide) (by decide) rfl (by decide) ?_
    refine r_aload_n 135 dX6_count_134 rfl rfl rfl ?_
    refine r_getf 138 dX6_count_135 rfl f_X6_19.r (by repeat (first | assumption | exact isBd.o (by assumption) | exact isHp.o (by assumption) | exact isGm.o (by assumption) | exact isPd.o (by assumption) | refine gs_eq ?_ | refine gs_ne (by omega) ?_ | exact is_of (by assumption) | refine gs_is ?_)) rfl ?_
    refine r_getf 141 dX6_count_138 rfl f_X6_203.r (by repeat (first | assumption | exact isBd.o (by assumption) | exact isHp.o (by assumption) | exact isGm.o (by assumption) | exact isPd.o (by assumption) | refine gs_eq ?_ | refine gs_ne (by omega) ?_ | exact is_of (by assumption) | refine gs_is ?_)) rfl ?_
    refine r_iret dX6_count_141 rfl (by decide) (by decide) ?_
    exact ⟨by simp [cntO], hr.rf⟩
  have hso : v.toInt < 0 ∨ 9 < v.toInt := sw_out10 hs0 hs1 hs2 hs3 hs4 hs5 hs6 hs7 hs8 hs9
  refine r_sw_out 142 dX6_count_1 hso (by decide) ?_
  refine r_bipush (v := (-2)) 144 dX6_count_142 rfl (by decide) ?_
  refine r_iret dX6_count_144 rfl (by decide) (by decide) ?_
  exact ⟨by simp [cntO, *], hr.rf⟩

def sidO (n : Nat → Int32) (cl lo : Nat → Int32) (s v : Int32) : Int32 := if v = 0 then menO n s else if v = 1 then kngO n s else if v = 2 then cl s.toNatClampNeg else if v = 3 then lo s.toNatClampNeg else if v = 4 then menO n s + 3 * kngO n s else -2
theorem side_ix {s : Int32} (h : s = 0 ∨ s = 1) : ∃ m : Nat, m < 2 ∧ s = nI m ∧ s.toNatClampNeg = m := by
  rcases h with rfl | rfl
  · exact ⟨0, by decide, rfl, rfl⟩
  · exact ⟨1, by decide, rfl, rfl⟩
set_option maxRecDepth 100000 in
theorem tX6_side {Γ : CT} {w : PW} {f n : Nat → Int32} {mv jp : Int32} {cl lo : Nat → Int32} {ps : List T3} {cs mk qt oc : Int32} {H : List GS} {S : Nat → Option GS} {pf : Nat → Int32} {pn : Nat} {s v : Int32} (hr : isRD w (f, n, mv, jp, cl, lo, ps, cs, mk, qt, oc) H S pf pn) : Cl Γ yX6_side XX6_side 7 0 0 [.ref 0, .int s, .int v] w (if s = 0 ∨ s = 1 then rI (sidO n cl lo s v) w else rI (-2) w) := by
  refine Cl.of (ls := [some (.ref 0), some (.int s), some (.int v)]) rfl (by decide +kernel) (fun h => by cases h) (Nat.le_of_ble_eq_true rfl) rfl ?_
  obtain ⟨⟨r0, r13, r14, r15⟩, rg, ⟨st, sl, r8, r9, r10, rH, rp, rS, rk⟩, rd, rs⟩ := id hr
  have rG : isGm w 1 f n mv jp cl lo ps cs mk qt oc := rg
  obtain ⟨g1, gb, g5, g6, gl, pfG, gO, g7⟩ := id rG
  have gb0 := gb.1
  have rd0 := rd.1
  refine r_iload_n 1 dX6_side_0 rfl rfl ?_
  refine r_callS0 4 dX6_side_1 rfl (tX6_isSide) l_X6_86 mX6_isSide rfl (by decide) (Nat.le_of_ble_eq_true rfl) (by decide) (qI ?_)
  refine r_if_ne 10 7 dX6_side_4 (by decide) rfl (fun q4 => ?_) (fun q4 => ?_)
  · have hs := of_decide_eq_true (ne_f q4)
    obtain ⟨m, hm, hm1, hm2⟩ := side_ix hs
    refine r_iload_n 11 dX6_side_10 rfl rfl ?_
    by_cases hs0 : v = 0
    · subst hs0
      refine r_sw_in 44 dX6_side_11 (by decide) (by decide) rfl (by decide) ?_
      refine r_aload_n 45 dX6_side_44 rfl rfl rfl ?_
      refine r_getf 48 dX6_side_45 rfl f_X6_10.r (by repeat (first | assumption | exact isBd.o (by assumption) | exact isHp.o (by assumption) | exact isGm.o (by assumption) | exact isPd.o (by assumption) | refine gs_eq ?_ | refine gs_ne (by omega) ?_ | exact is_of (by assumption) | refine gs_is ?_)) rfl ?_
      refine r_getf 51 dX6_side_48 rfl f_X6_55 (by repeat (first | assumption | exact isBd.o (by assumption) | exact isHp.o (by assumption) | exact isGm.o (by assumption) | exact isPd.o (by assumption) | refine gs_eq ?_ | refine gs_ne (by omega) ?_ | exact is_of (by assumption) | refine gs_is ?_)) rfl ?_
      refine r_iload_n 52 dX6_side_51 rfl rfl ?_
      refine r_callV0 55 dX6_side_52 rfl (tX0_menOf gb) l_X6_172 mX0_menOf rfl (by repeat (first | assumption | exact isBd.o (by assumption) | exact isHp.o (by assumption) | exact isGm.o (by assumption) | exact isPd.o (by assumption) | refine gs_eq ?_ | refine gs_ne (by omega) ?_ | exact is_of (by assumption) | refine gs_is ?_)) rfl (by decide) (Nat.le_of_ble_eq_true rfl) (by decide) (qI ?_)
      refine r_iret dX6_side_55 rfl (by decide) (by decide) ?_
      rw [if_pos hs]
      exact ⟨by simp [sidO], rfl⟩
    by_cases hs1 : v = 1
    · subst hs1
      refine r_sw_in 56 dX6_side_11 (by decide) (by decide) rfl (by decide) ?_
      refine r_aload_n 57 dX6_side_56 rfl rfl rfl ?_
      refine r_getf 60 dX6_side_57 rfl f_X6_10.r (by repeat (first | assumption | exact isBd.o (by assumption) | exact isHp.o (by assumption) | exact isGm.o (by assumption) | exact isPd.o (by assumption) | refine gs_eq ?_ | refine gs_ne (by omega) ?_ | exact is_of (by assumption) | refine gs_is ?_)) rfl ?_
      refine r_getf 63 dX6_side_60 rfl f_X6_55 (by repeat (first | assumption | exact isBd.o (by assumption) | exact isHp.o (by assumption) | exact isGm.o (by assumption) | exact isPd.o (by assumption) | refine gs_eq ?_ | refine gs_ne (by omega) ?_ | exact is_of (by assumption) | refine gs_is ?_)) rfl ?_
      refine r_iload_n 64 dX6_side_63 rfl rfl ?_
      refine r_callV0 67 dX6_side_64 rfl (tX0_kingsOf gb) l_X6_175 mX0_kingsOf rfl (by repeat (first | assumption | exact isBd.o (by assumption) | exact isHp.o (by assumption) | exact isGm.o (by assumption) | exact isPd.o (by assumption) | refine gs_eq ?_ | refine gs_ne (by omega) ?_ | exact is_of (by assumption) | refine gs_is ?_)) rfl (by decide) (Nat.le_of_ble_eq_true rfl) (by decide) (qI ?_)
      refine r_iret dX6_side_67 rfl (by decide) (by decide) ?_
      rw [if_pos hs]
      exact ⟨by simp [sidO], rfl⟩
    by_cases hs2 : v = 2
    · subst hs2
      refine r_sw_in 68 dX6_side_11 (by decide) (by decide) rfl (by decide) ?_
      refine r_aload_n 69 dX6_side_68 rfl rfl rfl ?_
      refine r_getf 72 dX6_side_69 rfl f_X6_10.r (by repeat (first | assumption | exact isBd.o (by assumption) | exact isHp.o (by assumption) | exact isGm.o (by assumption) | exact isPd.o (by assumption) | refine gs_eq ?_ | refine gs_ne (by omega) ?_ | exact is_of (by assumption) | refine gs_is ?_)) rfl ?_
      refine r_getf 75 dX6_side_72 rfl f_X6_178 (by repeat (first | assumption | exact isBd.o (by assumption) | exact isHp.o (by assumption) | exact isGm.o (by assumption) | exact isPd.o (by assumption) | refine gs_eq ?_ | refine gs_ne (by omega) ?_ | exact is_of (by assumption) | refine gs_is ?_)) rfl ?_
      refine r_iload_n 76 dX6_side_75 rfl rfl ?_
      refine r_iald 77 dX6_side_76 rfl (m) (by repeat (first | assumption | exact isBd.o (by assumption) | exact isHp.o (by assumption) | exact isGm.o (by assumption) | exact isPd.o (by assumption) | refine gs_eq ?_ | refine gs_ne (by omega) ?_ | exact is_of (by assumption) | refine gs_is ?_)) hm1 hm (by decide) ?_
      refine r_iret dX6_side_77 rfl (by decide) (by decide) ?_
      rw [if_pos hs]
      exact ⟨by simp [sidO, hm2], rfl⟩
    by_cases hs3 : v = 3
    · subst hs3
      refine r_sw_in 78 dX6_side_11 (by decide) (by decide) rfl (by decide) ?_
      refine r_aload_n 79 dX6_side_78 rfl rfl rfl ?_
      refine r_getf 82 dX6_side_79 rfl f_X6_10.r (by repeat (first | assumption | exact isBd.o (by assumption) | exact isHp.o (by assumption) | exact isGm.o (by assumption) | exact isPd.o (by assumption) | refine gs_eq ?_ | refine gs_ne (by omega) ?_ | exact is_of (by assumption) | refine gs_is ?_)) rfl ?_
      refine r_getf 85 dX6_side_82 rfl f_X6_182 (by repeat (first | assumption | exact isBd.o (by assumption) | exact isHp.o (by assumption) | exact isGm.o (by assumption) | exact isPd.o (by assumption) | refine gs_eq ?_ | refine gs_ne (by omega) ?_ | exact is_of (by assumption) | refine gs_is ?_)) rfl ?_
      refine r_iload_n 86 dX6_side_85 rfl rfl ?_
      refine r_iald 87 dX6_side_86 rfl (m) (by repeat (first | assumption | exact isBd.o (by assumption) | exact isHp.o (by assumption) | exact isGm.o (by assumption) | exact isPd.o (by assumption) | refine gs_eq ?_ | refine gs_ne (by omega) ?_ | exact is_of (by assumption) | refine gs_is ?_)) hm1 hm (by decide) ?_
      refine r_iret dX6_side_87 rfl (by decide) (by decide) ?_
      rw [if_pos hs]
      exact ⟨by simp [sidO, hm2], rfl⟩
    by_cases hs4 : v = 4
    · subst hs4
      refine r_sw_in 88 dX6_side_11 (by decide) (by decide) rfl (by decide) ?_
      refine r_aload_n 89 dX6_side_88 rfl rfl rfl ?_
      refine r_getf 92 dX6_side_89 rfl f_X6_10.r (by repeat (first | assumption | exact isBd.o (by assumption) | exact isHp.o (by assumption) | exact isGm.o (by assumption) | exact isPd.o (by assumption) | refine gs_eq ?_ | refine gs_ne (by omega) ?_ | exact is_of (by assumption) | refine gs_is ?_)) rfl ?_
      refine r_getf 95 dX6_side_92 rfl f_X6_55 (by repeat (first | assumption | exact isBd.o (by assumption) | exact isHp.o (by assumption) | exact isGm.o (by assumption) | exact isPd.o (by assumption) | refine gs_eq ?_ | refine gs_ne (by omega) ?_ | exact is_of (by assumption) | refine gs_is ?_)) rfl ?_
      refine r_iload_n 96 dX6_side_95 rfl rfl ?_
      refine r_callV0 99 dX6_side_96 rfl (tX0_worthOf gb) l_X6_185 mX0_worthOf rfl (by repeat (first | assumption | exact isBd.o (by assumption) | exact isHp.o (by assumption) | exact isGm.o (by assumption) | exact isPd.o (by assumption) | refine gs_eq ?_ | refine gs_ne (by omega) ?_ | exact is_of (by assumption) | refine gs_is ?_)) rfl (by decide) (Nat.le_of_ble_eq_true rfl) (by decide) (qI ?_)
      refine r_iret dX6_side_99 rfl (by decide) (by decide) ?_
      rw [if_pos hs]
      exact ⟨by simp [sidO], rfl⟩
    have hso : v.toInt < 0 ∨ 4 < v.toInt := sw_out5 hs0 hs1 hs2 hs3 hs4
    refine r_sw_out 100 dX6_side_11 hso (by decide) ?_
    refine r_bipush (v := (-2)) 102 dX6_side_100 rfl (by decide) ?_
    refine r_iret dX6_side_102 rfl (by decide) (by decide) ?_
    rw [if_pos hs]
    exact ⟨by simp [sidO, *], rfl⟩
  · refine r_bipush (v := (-2)) 9 dX6_side_7 rfl (by decide) ?_
    refine r_iret dX6_side_9 rfl (by decide) (by decide) ?_
    rw [if_neg (of_decide_eq_false (bI_0.mp q4))]
    exact ⟨rfl, rfl⟩

def dngO (f : Nat → Int32) (s : Int32) : Bool := if sdO (pAt f s) = -6 then false else (allJ f (1 - sdO (pAt f s)) (-6)).any (fun q => decide (q.2.2.2.2 = s))
theorem sd_01 {p : Int32} (h : ¬ sdO p = -6) : 1 - sdO p = 0 ∨ 1 - sdO p = 1 := by
  unfold sdO at h ⊢
  split
  · exact Or.inr rfl
  · split
    · exact Or.inl rfl
    · next h1 h2 => exact absurd (by rw [if_neg h1, if_neg h2]) h
set_option maxRecDepth 100000 in
theorem tX6_isInDanger {Γ : CT} {w : PW} {f n : Nat → Int32} {mv jp : Int32} {cl lo : Nat → Int32} {ps : List T3} {cs mk qt oc : Int32} {H : List GS} {S : Nat → Option GS} {pf : Nat → Int32} {pn : Nat} {s : Int32} (hr : isRD w (f, n, mv, jp, cl, lo, ps, cs, mk, qt, oc) H S pf pn) : Cl Γ yX6_isInDanger XX6_isInDanger 5 0 0 [.ref 0, .int s] w (rP (bI (dngO f s)) (fun w1 => Fr w w1 (fun q => 16 ≤ q ∧ q < 43) ∧ isSc w1)) := by
  refine Cl.of (ls := [some (.ref 0), some (.int s), none]) rfl (by decide +kernel) (fun h => by cases h) (Nat.le_of_ble_eq_true rfl) rfl ?_
  obtain ⟨⟨r0, r13, r14, r15⟩, rg, ⟨st, sl, r8, r9, r10, rH, rp, rS, rk⟩, rd, rs⟩ := id hr
  have rG : isGm w 1 f n mv jp cl lo ps cs mk qt oc := rg
  obtain ⟨g1, gb, g5, g6, gl, pfG, gO, g7⟩ := id rG
  have gb0 := gb.1
  have rd0 := rd.1
  obtain ⟨s34, ⟨l37, s37⟩, s25, s28, s16, s19⟩ := id rs
  have s370 := s37.o
  refine r_aload_n 1 dX6_isInDanger_0 rfl rfl rfl ?_
  refine r_getf 4 dX6_isInDanger_1 rfl f_X6_10.r (by repeat (first | assumption | exact isBd.o (by assumption) | exact isHp.o (by assumption) | exact isGm.o (by assumption) | exact isPd.o (by assumption) | refine gs_eq ?_ | refine gs_ne (by omega) ?_ | exact is_of (by assumption) | refine gs_is ?_)) rfl ?_
  refine r_getf 7 dX6_isInDanger_4 rfl f_X6_55 (by repeat (first | assumption | exact isBd.o (by assumption) | exact isHp.o (by assumption) | exact isGm.o (by assumption) | exact isPd.o (by assumption) | refine gs_eq ?_ | refine gs_ne (by omega) ?_ | exact is_of (by assumption) | refine gs_is ?_)) rfl ?_
  refine r_iload_n 8 dX6_isInDanger_7 rfl rfl ?_
  refine r_callV0 11 dX6_isInDanger_8 rfl (tX0_pieceAt gb) l_X6_72 mX0_pieceAt rfl (by repeat (first | assumption | exact isBd.o (by assumption) | exact isHp.o (by assumption) | exact isGm.o (by assumption) | exact isPd.o (by assumption) | refine gs_eq ?_ | refine gs_ne (by omega) ?_ | exact is_of (by assumption) | refine gs_is ?_)) rfl (by decide) (Nat.le_of_ble_eq_true rfl) (by decide) (qI ?_)
  refine r_callS0 14 dX6_isInDanger_11 rfl (tX6_sideOf) l_X6_243 mX6_sideOf rfl (by decide) (Nat.le_of_ble_eq_true rfl) (by decide) (qI ?_)
  refine r_istore_n (ls1 := [_, _, _]) 15 dX6_isInDanger_14 rfl (by decide) rfl rfl ?_
  refine r_iload_n 16 dX6_isInDanger_15 rfl rfl ?_
  refine r_bipush (v := (-6)) 18 dX6_isInDanger_16 rfl (by decide) ?_
  refine r_icmp_ne 23 21 dX6_isInDanger_18 (by decide) rfl (fun q18 => ?_) (fun q18 => ?_)
  · refine r_aload_n 24 dX6_isInDanger_23 rfl rfl rfl ?_
    refine r_getf 27 dX6_isInDanger_24 rfl f_X6_39.r (by repeat (first | assumption | exact isBd.o (by assumption) | exact isHp.o (by assumption) | exact isGm.o (by assumption) | exact isPd.o (by assumption) | refine gs_eq ?_ | refine gs_ne (by omega) ?_ | exact is_of (by assumption) | refine gs_is ?_)) rfl ?_
    refine r_getf 30 dX6_isInDanger_27 rfl f_X6_236 (by repeat (first | assumption | exact isBd.o (by assumption) | exact isHp.o (by assumption) | exact isGm.o (by assumption) | exact isPd.o (by assumption) | refine gs_eq ?_ | refine gs_ne (by omega) ?_ | exact is_of (by assumption) | refine gs_is ?_)) rfl ?_
    refine r_aload_n 31 dX6_isInDanger_30 rfl rfl rfl ?_
    refine r_getf 34 dX6_isInDanger_31 rfl f_X6_10.r (by repeat (first | assumption | exact isBd.o (by assumption) | exact isHp.o (by assumption) | exact isGm.o (by assumption) | exact isPd.o (by assumption) | refine gs_eq ?_ | refine gs_ne (by omega) ?_ | exact is_of (by assumption) | refine gs_is ?_)) rfl ?_
    refine r_getf 37 dX6_isInDanger_34 rfl f_X6_55 (by repeat (first | assumption | exact isBd.o (by assumption) | exact isHp.o (by assumption) | exact isGm.o (by assumption) | exact isPd.o (by assumption) | refine gs_eq ?_ | refine gs_ne (by omega) ?_ | exact is_of (by assumption) | refine gs_is ?_)) rfl ?_
    refine r_iconst (v := 1) 38 dX6_isInDanger_37 rfl (by decide) ?_
    refine r_iload_n 39 dX6_isInDanger_38 rfl rfl ?_
    refine r_isub 40 dX6_isInDanger_39 rfl ?_
    refine r_bipush (v := (-6)) 42 dX6_isInDanger_40 rfl (by decide) ?_
    refine r_callV0 45 dX6_isInDanger_42 rfl (tX3_listJumps gb s37 (by unfold apH; decide) (lenJ (sd_01 q18))) l_X6_246 mX3_listJumps rfl (by repeat (first | assumption | exact isBd.o (by assumption) | exact isHp.o (by assumption) | exact isGm.o (by assumption) | exact isPd.o (by assumption) | refine gs_eq ?_ | refine gs_ne (by omega) ?_ | exact is_of (by assumption) | refine gs_is ?_)) rfl (by decide) (Nat.le_of_ble_eq_true rfl) (by decide) (qN fun w1 h1 => ?_)
    have hF := h1.1
    have hA : ∀ q, (q < 37 ∨ 43 ≤ q) → w1[q]? = w[q]? := fun q a => hF.2 q (by unfold hS; omega)
    have e0 := (hA 0 (by decide)).trans r0
    have e13 := (hA 13 (by decide)).trans r13
    have h10 := h1.2.o
    refine r_aload_n 46 dX6_isInDanger_45 rfl rfl rfl ?_
    refine r_getf 49 dX6_isInDanger_46 rfl f_X6_39.r (by repeat (first | assumption | exact isBd.o (by assumption) | exact isHp.o (by assumption) | exact isGm.o (by assumption) | exact isPd.o (by assumption) | refine gs_eq ?_ | refine gs_ne (by omega) ?_ | exact is_of (by assumption) | refine gs_is ?_)) rfl ?_
    refine r_getf 52 dX6_isInDanger_49 rfl f_X6_236 (by repeat (first | assumption | exact isBd.o (by assumption) | exact isHp.o (by assumption) | exact isGm.o (by assumption) | exact isPd.o (by assumption) | refine gs_eq ?_ | refine gs_ne (by omega) ?_ | exact is_of (by assumption) | refine gs_is ?_)) rfl ?_
    refine r_iload_n 53 dX6_isInDanger_52 rfl rfl ?_
    refine r_callV0 56 dX6_isInDanger_53 rfl (tX3_takes h1.2) l_X6_250 mX3_takes rfl (by repeat (first | assumption | exact isBd.o (by assumption) | exact isHp.o (by assumption) | exact isGm.o (by assumption) | exact isPd.o (by assumption) | refine gs_eq ?_ | refine gs_ne (by omega) ?_ | exact is_of (by assumption) | refine gs_is ?_)) rfl (by decide) (Nat.le_of_ble_eq_true rfl) (by decide) (qI ?_)
    refine r_bret dX6_isInDanger_56 rfl (bI01 _) (by decide) (by decide) ?_
    exact ⟨by rw [dngO, if_neg q18], hF.mono (fun q a => ⟨by have := a.1; omega, by have := a.2; omega⟩), s34.ag (fun q a b => hA q (by omega)), ⟨_, h1.2⟩, s25.ag (fun q a b => hA q (by omega)), s28.ag (fun q a b => hA q (by omega)), s16.ag (fun q a b => hA q (by omega)), s19.ag (fun q a b => hA q (by omega))⟩
  · refine r_iconst (v := 0) 22 dX6_isInDanger_21 rfl (by decide) ?_
    refine r_bret dX6_isInDanger_22 rfl (Or.inl rfl) (by decide) (by decide) ?_
    exact ⟨by rw [dngO, if_pos q18]; rfl, Fr.rf, rs⟩

def sqrO (f : Nat → Int32) (mv jp oc : Int32) (s v : Int32) : Int32 := if v = 0 then pAt f s else if v = 1 then colI s else if v = 2 then s / 6 else if v = 3 then bI (dngO f s) else if v = 4 then nI ((hopsN f mv jp oc).countP (fun q => decide (nI q.1 = s))) else -2
theorem bI_bI (b : Bool) : (if bI b = 0 then (0 : Int32) else 1) = bI b := by cases b <;> rfl
set_option maxRecDepth 100000 in
theorem tX6_square {Γ : CT} {w : PW} {f n : Nat → Int32} {mv jp : Int32} {cl lo : Nat → Int32} {ps : List T3} {cs mk qt oc : Int32} {H : List GS} {S : Nat → Option GS} {pf : Nat → Int32} {pn : Nat} {s v : Int32} (hr : isRD w (f, n, mv, jp, cl, lo, ps, cs, mk, qt, oc) H S pf pn) (hmv : mv = 0 ∨ mv = 1) : Cl Γ yX6_square XX6_square 7 0 0 [.ref 0, .int s, .int v] w (if inI s 0 47 = true then rP (sqrO f mv jp oc s v) (toRD w (f, n, mv, jp, cl, lo, ps, cs, mk, qt, oc) H S pf pn) else rI (-1) w) := by
  refine Cl.of (ls := [some (.ref 0), some (.int s), some (.int v)]) rfl (by decide +kernel) (fun h => by cases h) (Nat.le_of_ble_eq_true rfl) rfl ?_
  obtain ⟨⟨r0, r13, r14, r15⟩, rg, ⟨st, sl, r8, r9, r10, rH, rp, rS, rk⟩, rd, rs⟩ := id hr
  have rG : isGm w 1 f n mv jp cl lo ps cs mk qt oc := rg
  obtain ⟨g1, gb, g5, g6, gl, pfG, gO, g7⟩ := id rG
  have gb0 := gb.1
  have rd0 := rd.1
  refine r_iload_n 1 dX6_square_0 rfl rfl ?_
  refine r_callS0 4 dX6_square_1 rfl (tX6_isSquare) l_X6_65 mX6_isSquare rfl (by decide) (Nat.le_of_ble_eq_true rfl) (by decide) (qI ?_)
  refine r_if_ne 9 7 dX6_square_4 (by decide) rfl (fun q4 => ?_) (fun q4 => ?_)
  · refine r_iload_n 10 dX6_square_9 rfl rfl ?_
    by_cases hs0 : v = 0
    · subst hs0
      refine r_sw_in 44 dX6_square_10 (by decide) (by decide) rfl (by decide) ?_
      refine r_aload_n 45 dX6_square_44 rfl rfl rfl ?_
      refine r_getf 48 dX6_square_45 rfl f_X6_10.r (by repeat (first | assumption | exact isBd.o (by assumption) | exact isHp.o (by assumption) | exact isGm.o (by assumption) | exact isPd.o (by assumption) | refine gs_eq ?_ | refine gs_ne (by omega) ?_ | exact is_of (by assumption) | refine gs_is ?_)) rfl ?_
      refine r_getf 51 dX6_square_48 rfl f_X6_55 (by repeat (first | assumption | exact isBd.o (by assumption) | exact isHp.o (by assumption) | exact isGm.o (by assumption) | exact isPd.o (by assumption) | refine gs_eq ?_ | refine gs_ne (by omega) ?_ | exact is_of (by assumption) | refine gs_is ?_)) rfl ?_
      refine r_iload_n 52 dX6_square_51 rfl rfl ?_
      refine r_callV0 55 dX6_square_52 rfl (tX0_pieceAt gb) l_X6_72 mX0_pieceAt rfl (by repeat (first | assumption | exact isBd.o (by assumption) | exact isHp.o (by assumption) | exact isGm.o (by assumption) | exact isPd.o (by assumption) | refine gs_eq ?_ | refine gs_ne (by omega) ?_ | exact is_of (by assumption) | refine gs_is ?_)) rfl (by decide) (Nat.le_of_ble_eq_true rfl) (by decide) (qI ?_)
      refine r_iret dX6_square_55 rfl (by decide) (by decide) ?_
      rw [if_pos (ne_f q4)]
      exact ⟨by simp [sqrO], hr.rf⟩
    by_cases hs1 : v = 1
    · subst hs1
      refine r_sw_in 56 dX6_square_10 (by decide) (by decide) rfl (by decide) ?_
      refine r_iload_n 57 dX6_square_56 rfl rfl ?_
      refine r_callS0 60 dX6_square_57 rfl (tX6_columnOf) l_X6_130 mX6_columnOf rfl (by decide) (Nat.le_of_ble_eq_true rfl) (by decide) (qI ?_)
      refine r_iret dX6_square_60 rfl (by decide) (by decide) ?_
      rw [if_pos (ne_f q4)]
      exact ⟨by simp [sqrO, colI], hr.rf⟩
    by_cases hs2 : v = 2
    · subst hs2
      refine r_sw_in 61 dX6_square_10 (by decide) (by decide) rfl (by decide) ?_
      refine r_iload_n 62 dX6_square_61 rfl rfl ?_
      refine r_callS0 65 dX6_square_62 rfl (tX6_rowOf) l_X6_133 mX6_rowOf rfl (by decide) (Nat.le_of_ble_eq_true rfl) (by decide) (qI ?_)
      refine r_iret dX6_square_65 rfl (by decide) (by decide) ?_
      rw [if_pos (ne_f q4)]
      exact ⟨by simp [sqrO], hr.rf⟩
    by_cases hs3 : v = 3
    · subst hs3
      refine r_sw_in 66 dX6_square_10 (by decide) (by decide) rfl (by decide) ?_
      refine r_aload_n 67 dX6_square_66 rfl rfl rfl ?_
      refine r_iload_n 68 dX6_square_67 rfl rfl ?_
      refine r_callV0 71 dX6_square_68 rfl (tX6_isInDanger hr) l_X6_136 mX6_isInDanger rfl (by repeat (first | assumption | exact isBd.o (by assumption) | exact isHp.o (by assumption) | exact isGm.o (by assumption) | exact isPd.o (by assumption) | refine gs_eq ?_ | refine gs_ne (by omega) ?_ | exact is_of (by assumption) | refine gs_is ?_)) rfl (by decide) (Nat.le_of_ble_eq_true rfl) (by decide) (qP fun w1 hk => ?_)
      refine r_callS0 74 dX6_square_71 rfl (tX6_oneIf) l_X6_139 mX6_oneIf rfl (by decide) (Nat.le_of_ble_eq_true rfl) (by decide) (qI ?_)
      refine r_iret dX6_square_74 rfl (by decide) (by decide) ?_
      rw [if_pos (ne_f q4)]
      exact ⟨by rw [bI_bI]; simp [sqrO], hr.scr hk.1 hk.2⟩
    by_cases hs4 : v = 4
    · subst hs4
      refine r_sw_in 75 dX6_square_10 (by decide) (by decide) rfl (by decide) ?_
      refine r_aload_n 76 dX6_square_75 rfl rfl rfl ?_
      refine r_callV0 79 dX6_square_76 rfl (tX6_hopsOfNow hr hmv) l_X6_92 mX6_hopsOfNow rfl (by repeat (first | assumption | exact isBd.o (by assumption) | exact isHp.o (by assumption) | exact isGm.o (by assumption) | exact isPd.o (by assumption) | refine gs_eq ?_ | refine gs_ne (by omega) ?_ | exact is_of (by assumption) | refine gs_is ?_)) rfl (by decide) (Nat.le_of_ble_eq_true rfl) (by decide) (qRP fun w1 hk => ?_)
      obtain ⟨⟨hr1, hM1⟩, hF1, hsc1, hh1, hb1⟩ : toRD w (f, n, mv, jp, cl, lo, ps, cs, mk, qt, oc) H S pf pn w1 ∧ Fr w w1 (fun q => 16 ≤ q ∧ q < 43) ∧ isSc w1 ∧ isHp w1 37 (hopsN f mv jp oc) ∧ isBd w1 34 f n mv jp := ⟨hn_rd hr hk, hk⟩
      obtain ⟨⟨r01, r131, r141, r151⟩, rg1, ⟨st1, sl1, r81, r91, r101, rH1, rp1, rS1, rk1⟩, rd1, rs1⟩ := id hr1
      have rG1 : isGm w1 1 f n mv jp cl lo ps cs mk qt oc := rg1
      obtain ⟨g11, gb1, g51, g61, gl1, pfG1, gO1, g71⟩ := id rG1
      have gb01 := gb1.1
      have rd01 := rd1.1
      have hh10 := hh1.o
      refine r_iload_n 80 dX6_square_79 rfl rfl ?_
      refine r_callV0 83 dX6_square_80 rfl (tX3_numberFrom hh1) l_X6_143 mX3_numberFrom rfl (by repeat (first | assumption | exact isBd.o (by assumption) | exact isHp.o (by assumption) | exact isGm.o (by assumption) | exact isPd.o (by assumption) | refine gs_eq ?_ | refine gs_ne (by omega) ?_ | exact is_of (by assumption) | refine gs_is ?_)) rfl (by decide) (Nat.le_of_ble_eq_true rfl) (by decide) (qI ?_)
      refine r_iret dX6_square_83 rfl (by decide) (by decide) ?_
      rw [if_pos (ne_f q4)]
      exact ⟨by simp [sqrO], hr1, hM1⟩
    have hso : v.toInt < 0 ∨ 4 < v.toInt := sw_out5 hs0 hs1 hs2 hs3 hs4
    refine r_sw_out 84 dX6_square_10 hso (by decide) ?_
    refine r_bipush (v := (-2)) 86 dX6_square_84 rfl (by decide) ?_
    refine r_iret dX6_square_86 rfl (by decide) (by decide) ?_
    rw [if_pos (ne_f q4)]
    exact ⟨by simp [sqrO, *], hr.rf⟩
  · refine r_iconst (v := (-1)) 8 dX6_square_7 rfl (by decide) ?_
    refine r_iret dX6_square_8 rfl (by decide) (by decide) ?_
    rw [if_neg (eq_f q4)]
    exact ⟨rfl, rfl⟩

set_option maxRecDepth 100000 in
theorem tX6_isJumpedOnBehind {Γ : CT} {w : PW} {f n : Nat → Int32} {mv jp : Int32} {l : List HP} {j : Nat} {q : HP} (ht : isTp w) (hsc : isSc w) (hb : isBd w 34 f n mv jp) (hh : isHp w 37 l) (hq : l[j]? = some q) (hto : q.2.1 < 48) (hfr : q.1 < 48) : Cl Γ yX6_isJumpedOnBehind XX6_isJumpedOnBehind 6 0 0 [.ref 0, .int (nI j)] w (rP (bI (decide (¬ mkJ f mv q = -6))) (fun w1 => Fr w w1 (fun q => 16 ≤ q ∧ q < 43) ∧ isSc w1)) := by
  refine Cl.of (ls := [some (.ref 0), some (.int (nI j))]) rfl (by decide +kernel) (fun h => by cases h) (Nat.le_of_ble_eq_true rfl) rfl ?_
  obtain ⟨r0, r13, r14, r15⟩ := id ht
  obtain ⟨s34, s37, ⟨f2, n2, v2, p2, s25⟩, s28, s16, s19⟩ := id hsc
  refine r_aload_n 1 dX6_isJumpedOnBehind_0 rfl rfl rfl ?_
  refine r_getf 4 dX6_isJumpedOnBehind_1 rfl f_X6_39.r (by repeat (first | assumption | exact isBd.o (by assumption) | exact isHp.o (by assumption) | exact isGm.o (by assumption) | exact isPd.o (by assumption) | refine gs_eq ?_ | refine gs_ne (by omega) ?_ | exact is_of (by assumption) | refine gs_is ?_)) rfl ?_
  refine r_iload_n 5 dX6_isJumpedOnBehind_4 rfl rfl ?_
  refine r_callV0 8 dX6_isJumpedOnBehind_5 rfl (tX5_tryHop (y1 := 14) (nb := 25) (nh := 28) r13 r14 hb hh s25 hq hto hfr (by decide) (by unfold apH; decide) (by decide) (by decide)) l_X6_216 mX5_tryHop rfl (by repeat (first | assumption | exact isBd.o (by assumption) | exact isHp.o (by assumption) | exact isGm.o (by assumption) | exact isPd.o (by assumption) | refine gs_eq ?_ | refine gs_ne (by omega) ?_ | exact is_of (by assumption) | refine gs_is ?_)) rfl (by decide) (Nat.le_of_ble_eq_true rfl) (by decide) (qN fun w1 h1 => ?_)
  have hF := h1.1
  have hA : ∀ q, (q < 25 ∨ 28 ≤ q) → w1[q]? = w[q]? := fun q a => hF.2 q (by unfold bS; omega)
  have e0 := (hA 0 (by decide)).trans r0
  have e13 := (hA 13 (by decide)).trans r13
  have e14 := (hA 14 (by decide)).trans r14
  have e25 := h1.2.1
  refine r_aload_n 9 dX6_isJumpedOnBehind_8 rfl rfl rfl ?_
  refine r_getf 12 dX6_isJumpedOnBehind_9 rfl f_X6_39.r (by repeat (first | assumption | exact isBd.o (by assumption) | exact isHp.o (by assumption) | exact isGm.o (by assumption) | exact isPd.o (by assumption) | refine gs_eq ?_ | refine gs_ne (by omega) ?_ | exact is_of (by assumption) | refine gs_is ?_)) rfl ?_
  refine r_getf 15 dX6_isJumpedOnBehind_12 rfl f_X6_220 (by repeat (first | assumption | exact isBd.o (by assumption) | exact isHp.o (by assumption) | exact isGm.o (by assumption) | exact isPd.o (by assumption) | refine gs_eq ?_ | refine gs_ne (by omega) ?_ | exact is_of (by assumption) | refine gs_is ?_)) rfl ?_
  refine r_ifnull 18 dX6_isJumpedOnBehind_15 rfl ?_
  refine r_aload_n 19 dX6_isJumpedOnBehind_18 rfl rfl rfl ?_
  refine r_getf 22 dX6_isJumpedOnBehind_19 rfl f_X6_39.r (by repeat (first | assumption | exact isBd.o (by assumption) | exact isHp.o (by assumption) | exact isGm.o (by assumption) | exact isPd.o (by assumption) | refine gs_eq ?_ | refine gs_ne (by omega) ?_ | exact is_of (by assumption) | refine gs_is ?_)) rfl ?_
  refine r_getf 25 dX6_isJumpedOnBehind_22 rfl f_X6_220 (by repeat (first | assumption | exact isBd.o (by assumption) | exact isHp.o (by assumption) | exact isGm.o (by assumption) | exact isPd.o (by assumption) | refine gs_eq ?_ | refine gs_ne (by omega) ?_ | exact is_of (by assumption) | refine gs_is ?_)) rfl ?_
  refine r_getf 28 dX6_isJumpedOnBehind_25 rfl f_X6_204 (by repeat (first | assumption | exact isBd.o (by assumption) | exact isHp.o (by assumption) | exact isGm.o (by assumption) | exact isPd.o (by assumption) | refine gs_eq ?_ | refine gs_ne (by omega) ?_ | exact is_of (by assumption) | refine gs_is ?_)) rfl ?_
  refine r_getf 31 dX6_isJumpedOnBehind_28 rfl f_X6_194.r (by repeat (first | assumption | exact isBd.o (by assumption) | exact isHp.o (by assumption) | exact isGm.o (by assumption) | exact isPd.o (by assumption) | refine gs_eq ?_ | refine gs_ne (by omega) ?_ | exact is_of (by assumption) | refine gs_is ?_)) rfl ?_
  refine r_bipush (v := (-6)) 33 dX6_isJumpedOnBehind_31 rfl (by decide) ?_
  refine r_icmp_eq 40 36 dX6_isJumpedOnBehind_33 (by decide) rfl (fun q33 => ?_) (fun q33 => ?_)
  · refine r_iconst (v := 0) 41 dX6_isJumpedOnBehind_40 rfl (by decide) ?_
    refine r_bret dX6_isJumpedOnBehind_41 rfl (by first | exact Or.inl rfl | exact Or.inr rfl) (by decide) (by decide) ?_
    have hE : Fr w w1 (fun q => 16 ≤ q ∧ q < 43) ∧ isSc w1 := ⟨hF.mono (fun q a => ⟨by have := a.1; omega, by have := a.2; omega⟩), s34.ag (fun q a b => hA q (by omega)), s37.ag (fun q a b => hA q (by omega)), ⟨_, _, _, _, h1.2⟩, s28.ag (fun q a b => hA q (by omega)), s16.ag (fun q a b => hA q (by omega)), s19.ag (fun q a b => hA q (by omega))⟩
    first
      | exact ⟨by rw [decide_eq_false (fun z => z q33)]; rfl, hE⟩
      | exact ⟨by rw [decide_eq_true q33]; rfl, hE⟩
  · refine r_iconst (v := 1) 37 dX6_isJumpedOnBehind_36 rfl (by decide) ?_
    refine r_goto 41 dX6_isJumpedOnBehind_37 (by decide) ?_
    refine r_bret dX6_isJumpedOnBehind_41 rfl (by first | exact Or.inl rfl | exact Or.inr rfl) (by decide) (by decide) ?_
    have hE : Fr w w1 (fun q => 16 ≤ q ∧ q < 43) ∧ isSc w1 := ⟨hF.mono (fun q a => ⟨by have := a.1; omega, by have := a.2; omega⟩), s34.ag (fun q a b => hA q (by omega)), s37.ag (fun q a b => hA q (by omega)), ⟨_, _, _, _, h1.2⟩, s28.ag (fun q a b => hA q (by omega)), s16.ag (fun q a b => hA q (by omega)), s19.ag (fun q a b => hA q (by omega))⟩
    first
      | exact ⟨by rw [decide_eq_false (fun z => z q33)]; rfl, hE⟩
      | exact ⟨by rw [decide_eq_true q33]; rfl, hE⟩

def ofhO (f : Nat → Int32) (mv : Int32) (q : HP) (v : Int32) : Int32 := if v = 0 then nI q.1 else if v = 1 then nI q.2.1 else if v = 2 then nI q.2.2.1 else if v = 3 then nI q.2.2.2.1 else if v = 4 then q.2.2.2.2 else if v = 5 then bI (crO (f q.1) (nI q.1) (nI q.2.2.2.1)) else if v = 6 then bI (decide (¬ mkJ f mv q = -6)) else -2
set_option maxRecDepth 100000 in
theorem tX6_ofHop {Γ : CT} {w : PW} {f n : Nat → Int32} {mv jp : Int32} {cl lo : Nat → Int32} {ps : List T3} {cs mk qt oc : Int32} {H : List GS} {S : Nat → Option GS} {pf : Nat → Int32} {pn : Nat} {x v : Int32} (hr : isRD w (f, n, mv, jp, cl, lo, ps, cs, mk, qt, oc) H S pf pn) (hmv : mv = 0 ∨ mv = 1) : Cl Γ yX6_ofHop XX6_ofHop 7 0 0 [.ref 0, .int x, .int v] w (fun r w1 => if hasO (hopsN f mv jp oc) x = true then (∃ q, (hopsN f mv jp oc)[x.toNatClampNeg]? = some q ∧ rP (ofhO f mv q v) (toRD w (f, n, mv, jp, cl, lo, ps, cs, mk, qt, oc) H S pf pn) r w1) else rP (-1) (toRD w (f, n, mv, jp, cl, lo, ps, cs, mk, qt, oc) H S pf pn) r w1) := by
  refine Cl.of (ls := [some (.ref 0), some (.int x), some (.int v), none]) rfl (by decide +kernel) (fun h => by cases h) (Nat.le_of_ble_eq_true rfl) rfl ?_
  obtain ⟨⟨r0, r13, r14, r15⟩, rg, ⟨st, sl, r8, r9, r10, rH, rp, rS, rk⟩, rd, rs⟩ := id hr
  have rG : isGm w 1 f n mv jp cl lo ps cs mk qt oc := rg
  obtain ⟨g1, gb, g5, g6, gl, pfG, gO, g7⟩ := id rG
  have gb0 := gb.1
  have rd0 := rd.1
  refine r_aload_n 1 dX6_ofHop_0 rfl rfl rfl ?_
  refine r_callV0 4 dX6_ofHop_1 rfl (tX6_hopsOfNow hr hmv) l_X6_92 mX6_hopsOfNow rfl (by repeat (first | assumption | exact isBd.o (by assumption) | exact isHp.o (by assumption) | exact isGm.o (by assumption) | exact isPd.o (by assumption) | refine gs_eq ?_ | refine gs_ne (by omega) ?_ | exact is_of (by assumption) | refine gs_is ?_)) rfl (by decide) (Nat.le_of_ble_eq_true rfl) (by decide) (qRP fun w1 hk => ?_)
  obtain ⟨⟨hr1, hM1⟩, hF1, hsc1, hh1, hb1⟩ : toRD w (f, n, mv, jp, cl, lo, ps, cs, mk, qt, oc) H S pf pn w1 ∧ Fr w w1 (fun q => 16 ≤ q ∧ q < 43) ∧ isSc w1 ∧ isHp w1 37 (hopsN f mv jp oc) ∧ isBd w1 34 f n mv jp := ⟨hn_rd hr hk, hk⟩
  obtain ⟨⟨r01, r131, r141, r151⟩, rg1, ⟨st1, sl1, r81, r91, r101, rH1, rp1, rS1, rk1⟩, rd1, rs1⟩ := id hr1
  have rG1 : isGm w1 1 f n mv jp cl lo ps cs mk qt oc := rg1
  obtain ⟨g11, gb1, g51, g61, gl1, pfG1, gO1, g71⟩ := id rG1
  have gb01 := gb1.1
  have rd01 := rd1.1
  have hh10 := hh1.o
  refine r_astore_n (ls1 := [_, _, _, _]) 5 dX6_ofHop_4 rfl (by decide) rfl rfl rfl ?_
  refine r_aload_n 6 dX6_ofHop_5 rfl rfl rfl ?_
  refine r_iload_n 7 dX6_ofHop_6 rfl rfl ?_
  refine r_callV0 10 dX6_ofHop_7 rfl (tX3_has hh1) l_X6_96 mX3_has rfl (by repeat (first | assumption | exact isBd.o (by assumption) | exact isHp.o (by assumption) | exact isGm.o (by assumption) | exact isPd.o (by assumption) | refine gs_eq ?_ | refine gs_ne (by omega) ?_ | exact is_of (by assumption) | refine gs_is ?_)) rfl (by decide) (Nat.le_of_ble_eq_true rfl) (by decide) (qI ?_)
  refine r_if_ne 15 13 dX6_ofHop_10 (by decide) rfl (fun q10 => ?_) (fun q10 => ?_)
  · obtain ⟨j, hj, rfl⟩ := hasO_ix (by have := hopsN_len (f := f) (jp := jp) (oc := oc) hmv; omega) (ne_f q10)
    obtain ⟨q, hq⟩ : ∃ q, (hopsN f mv jp oc)[j]? = some q := ⟨_, List.getElem?_eq_getElem hj⟩
    obtain ⟨hfr, hto, hsd⟩ := hopsN_to hq
    refine r_iload_n 16 dX6_ofHop_15 rfl rfl ?_
    by_cases hs0 : v = 0
    · subst hs0
      refine r_sw_in 60 dX6_ofHop_16 (by decide) (by decide) rfl (by decide) ?_
      refine r_aload_n 61 dX6_ofHop_60 rfl rfl rfl ?_
      refine r_iload_n 62 dX6_ofHop_61 rfl rfl ?_
      refine r_callV0 65 dX6_ofHop_62 rfl (tX3_from hh1 hq) l_X6_150 mX3_from rfl (by repeat (first | assumption | exact isBd.o (by assumption) | exact isHp.o (by assumption) | exact isGm.o (by assumption) | exact isPd.o (by assumption) | refine gs_eq ?_ | refine gs_ne (by omega) ?_ | exact is_of (by assumption) | refine gs_is ?_)) rfl (by decide) (Nat.le_of_ble_eq_true rfl) (by decide) (qI ?_)
      refine r_iret dX6_ofHop_65 rfl (by decide) (by decide) ?_
      rw [if_pos (ne_f q10)]
      exact ⟨q, by rw [nI_clamp (by have := hh1.1; omega)]; exact hq, by simp [ofhO], hr1, hM1⟩
    by_cases hs1 : v = 1
    · subst hs1
      refine r_sw_in 66 dX6_ofHop_16 (by decide) (by decide) rfl (by decide) ?_
      refine r_aload_n 67 dX6_ofHop_66 rfl rfl rfl ?_
      refine r_iload_n 68 dX6_ofHop_67 rfl rfl ?_
      refine r_callV0 71 dX6_ofHop_68 rfl (tX3_to hh1 hq) l_X6_153 mX3_to rfl (by repeat (first | assumption | exact isBd.o (by assumption) | exact isHp.o (by assumption) | exact isGm.o (by assumption) | exact isPd.o (by assumption) | refine gs_eq ?_ | refine gs_ne (by omega) ?_ | exact is_of (by assumption) | refine gs_is ?_)) rfl (by decide) (Nat.le_of_ble_eq_true rfl) (by decide) (qI ?_)
      refine r_iret dX6_ofHop_71 rfl (by decide) (by decide) ?_
      rw [if_pos (ne_f q10)]
      exact ⟨q, by rw [nI_clamp (by have := hh1.1; omega)]; exact hq, by simp [ofhO], hr1, hM1⟩
    by_cases hs2 : v = 2
    · subst hs2
      refine r_sw_in 72 dX6_ofHop_16 (by decide) (by decide) rfl (by decide) ?_
      refine r_aload_n 73 dX6_ofHop_72 rfl rfl rfl ?_
      refine r_iload_n 74 dX6_ofHop_73 rfl rfl ?_
      refine r_callV0 77 dX6_ofHop_74 rfl (tX3_way hh1 hq) l_X6_156 mX3_way rfl (by repeat (first | assumption | exact isBd.o (by assumption) | exact isHp.o (by assumption) | exact isGm.o (by assumption) | exact isPd.o (by assumption) | refine gs_eq ?_ | refine gs_ne (by omega) ?_ | exact is_of (by assumption) | refine gs_is ?_)) rfl (by decide) (Nat.le_of_ble_eq_true rfl) (by decide) (qI ?_)
      refine r_iret dX6_ofHop_77 rfl (by decide) (by decide) ?_
      rw [if_pos (ne_f q10)]
      exact ⟨q, by rw [nI_clamp (by have := hh1.1; omega)]; exact hq, by simp [ofhO], hr1, hM1⟩
    by_cases hs3 : v = 3
    · subst hs3
      refine r_sw_in 78 dX6_ofHop_16 (by decide) (by decide) rfl (by decide) ?_
      refine r_aload_n 79 dX6_ofHop_78 rfl rfl rfl ?_
      refine r_iload_n 80 dX6_ofHop_79 rfl rfl ?_
      refine r_callV0 83 dX6_ofHop_80 rfl (tX3_steps hh1 hq) l_X6_159 mX3_steps rfl (by repeat (first | assumption | exact isBd.o (by assumption) | exact isHp.o (by assumption) | exact isGm.o (by assumption) | exact isPd.o (by assumption) | refine gs_eq ?_ | refine gs_ne (by omega) ?_ | exact is_of (by assumption) | refine gs_is ?_)) rfl (by decide) (Nat.le_of_ble_eq_true rfl) (by decide) (qI ?_)
      refine r_iret dX6_ofHop_83 rfl (by decide) (by decide) ?_
      rw [if_pos (ne_f q10)]
      exact ⟨q, by rw [nI_clamp (by have := hh1.1; omega)]; exact hq, by simp [ofhO], hr1, hM1⟩
    by_cases hs4 : v = 4
    · subst hs4
      refine r_sw_in 84 dX6_ofHop_16 (by decide) (by decide) rfl (by decide) ?_
      refine r_aload_n 85 dX6_ofHop_84 rfl rfl rfl ?_
      refine r_iload_n 86 dX6_ofHop_85 rfl rfl ?_
      refine r_callV0 89 dX6_ofHop_86 rfl (tX3_taken hh1 hq) l_X6_162 mX3_taken rfl (by repeat (first | assumption | exact isBd.o (by assumption) | exact isHp.o (by assumption) | exact isGm.o (by assumption) | exact isPd.o (by assumption) | refine gs_eq ?_ | refine gs_ne (by omega) ?_ | exact is_of (by assumption) | refine gs_is ?_)) rfl (by decide) (Nat.le_of_ble_eq_true rfl) (by decide) (qI ?_)
      refine r_iret dX6_ofHop_89 rfl (by decide) (by decide) ?_
      rw [if_pos (ne_f q10)]
      exact ⟨q, by rw [nI_clamp (by have := hh1.1; omega)]; exact hq, by simp [ofhO], hr1, hM1⟩
    by_cases hs5 : v = 5
    · subst hs5
      refine r_sw_in 90 dX6_ofHop_16 (by decide) (by decide) rfl (by decide) ?_
      refine r_aload_n 91 dX6_ofHop_90 rfl rfl rfl ?_
      refine r_getf 94 dX6_ofHop_91 rfl f_X6_10.r (by repeat (first | assumption | exact isBd.o (by assumption) | exact isHp.o (by assumption) | exact isGm.o (by assumption) | exact isPd.o (by assumption) | refine gs_eq ?_ | refine gs_ne (by omega) ?_ | exact is_of (by assumption) | refine gs_is ?_)) rfl ?_
      refine r_getf 97 dX6_ofHop_94 rfl f_X6_55 (by repeat (first | assumption | exact isBd.o (by assumption) | exact isHp.o (by assumption) | exact isGm.o (by assumption) | exact isPd.o (by assumption) | refine gs_eq ?_ | refine gs_ne (by omega) ?_ | exact is_of (by assumption) | refine gs_is ?_)) rfl ?_
      refine r_aload_n 98 dX6_ofHop_97 rfl rfl rfl ?_
      refine r_iload_n 99 dX6_ofHop_98 rfl rfl ?_
      refine r_callV0 102 dX6_ofHop_99 rfl (tX3_from hh1 hq) l_X6_150 mX3_from rfl (by repeat (first | assumption | exact isBd.o (by assumption) | exact isHp.o (by assumption) | exact isGm.o (by assumption) | exact isPd.o (by assumption) | refine gs_eq ?_ | refine gs_ne (by omega) ?_ | exact is_of (by assumption) | refine gs_is ?_)) rfl (by decide) (Nat.le_of_ble_eq_true rfl) (by decide) (qI ?_)
      refine r_callV0 105 dX6_ofHop_102 rfl (tX0_pAt gb1 hfr) l_X6_72 mX0_pieceAt rfl (by repeat (first | assumption | exact isBd.o (by assumption) | exact isHp.o (by assumption) | exact isGm.o (by assumption) | exact isPd.o (by assumption) | refine gs_eq ?_ | refine gs_ne (by omega) ?_ | exact is_of (by assumption) | refine gs_is ?_)) rfl (by decide) (Nat.le_of_ble_eq_true rfl) (by decide) (qI ?_)
      refine r_aload_n 106 dX6_ofHop_105 rfl rfl rfl ?_
      refine r_iload_n 107 dX6_ofHop_106 rfl rfl ?_
      refine r_callV0 110 dX6_ofHop_107 rfl (tX3_from hh1 hq) l_X6_150 mX3_from rfl (by repeat (first | assumption | exact isBd.o (by assumption) | exact isHp.o (by assumption) | exact isGm.o (by assumption) | exact isPd.o (by assumption) | refine gs_eq ?_ | refine gs_ne (by omega) ?_ | exact is_of (by assumption) | refine gs_is ?_)) rfl (by decide) (Nat.le_of_ble_eq_true rfl) (by decide) (qI ?_)
      refine r_aload_n 111 dX6_ofHop_110 rfl rfl rfl ?_
      refine r_iload_n 112 dX6_ofHop_111 rfl rfl ?_
      refine r_callV0 115 dX6_ofHop_112 rfl (tX3_steps hh1 hq) l_X6_159 mX3_steps rfl (by repeat (first | assumption | exact isBd.o (by assumption) | exact isHp.o (by assumption) | exact isGm.o (by assumption) | exact isPd.o (by assumption) | refine gs_eq ?_ | refine gs_ne (by omega) ?_ | exact is_of (by assumption) | refine gs_is ?_)) rfl (by decide) (Nat.le_of_ble_eq_true rfl) (by decide) (qI ?_)
      refine r_callS0 118 dX6_ofHop_115 rfl (tX6_isCrowned) l_X6_165 mX6_isCrowned rfl (by decide) (Nat.le_of_ble_eq_true rfl) (by decide) (qI ?_)
      refine r_callS0 121 dX6_ofHop_118 rfl (tX6_oneIf) l_X6_139 mX6_oneIf rfl (by decide) (Nat.le_of_ble_eq_true rfl) (by decide) (qI ?_)
      refine r_iret dX6_ofHop_121 rfl (by decide) (by decide) ?_
      rw [if_pos (ne_f q10)]
      exact ⟨q, by rw [nI_clamp (by have := hh1.1; omega)]; exact hq, by rw [bI_bI]; simp [ofhO], hr1, hM1⟩
    by_cases hs6 : v = 6
    · subst hs6
      refine r_sw_in 122 dX6_ofHop_16 (by decide) (by decide) rfl (by decide) ?_
      refine r_aload_n 123 dX6_ofHop_122 rfl rfl rfl ?_
      refine r_iload_n 124 dX6_ofHop_123 rfl rfl ?_
      refine r_callV0 127 dX6_ofHop_124 rfl (tX6_isJumpedOnBehind ⟨r01, r131, r141, r151⟩ hsc1 hb1 hh1 hq hto hfr) l_X6_169 mX6_isJumpedOnBehind rfl (by repeat (first | assumption | exact isBd.o (by assumption) | exact isHp.o (by assumption) | exact isGm.o (by assumption) | exact isPd.o (by assumption) | refine gs_eq ?_ | refine gs_ne (by omega) ?_ | exact is_of (by assumption) | refine gs_is ?_)) rfl (by decide) (Nat.le_of_ble_eq_true rfl) (by decide) (qP fun w2 hk2 => ?_)
      refine r_callS0 130 dX6_ofHop_127 rfl (tX6_oneIf) l_X6_139 mX6_oneIf rfl (by decide) (Nat.le_of_ble_eq_true rfl) (by decide) (qI ?_)
      refine r_iret dX6_ofHop_130 rfl (by decide) (by decide) ?_
      rw [if_pos (ne_f q10)]
      exact ⟨q, by rw [nI_clamp (by have := hh1.1; omega)]; exact hq, by rw [bI_bI]; simp [ofhO], toRD.tr ⟨hr1, hM1⟩ (hr1.scr hk2.1 hk2.2)⟩
    have hso : v.toInt < 0 ∨ 6 < v.toInt := sw_out7 hs0 hs1 hs2 hs3 hs4 hs5 hs6
    refine r_sw_out 131 dX6_ofHop_16 hso (by decide) ?_
    refine r_bipush (v := (-2)) 133 dX6_ofHop_131 rfl (by decide) ?_
    refine r_iret dX6_ofHop_133 rfl (by decide) (by decide) ?_
    rw [if_pos (ne_f q10)]
    exact ⟨q, by rw [nI_clamp (by have := hh1.1; omega)]; exact hq, by simp [ofhO, *], hr1, hM1⟩
  · refine r_iconst (v := (-1)) 14 dX6_ofHop_13 rfl (by decide) ?_
    refine r_iret dX6_ofHop_14 rfl (by decide) (by decide) ?_
    rw [if_neg (eq_f q10)]
    exact ⟨rfl, hr1, hM1⟩

def hopG (G : GS) (m : Nat) (q : HP) (sec : Int32) : GS :=
  if sec ≤ G.2.2.2.2.1 m then (mkF G.1 (nI m) q, mkN G.1 G.2.1 (nI m) q, mkM G.1 (nI m) q, mkJ G.1 (nI m) q, upd G.2.2.2.2.1 m (G.2.2.2.2.1 m - sec), loO G.2.2.2.2.2.1 m q, psO G.1 (nI m) G.2.2.2.2.2.2.1 q, G.2.2.2.2.2.2.2.1, G.2.2.2.2.2.2.2.2.1 + 1, qtO G.1 G.2.2.2.2.2.2.2.2.2.1 q, judO (mkF G.1 (nI m) q) (mkM G.1 (nI m) q) (psO G.1 (nI m) G.2.2.2.2.2.2.1 q) (qtO G.1 G.2.2.2.2.2.2.2.2.2.1 q))
  else (G.1, G.2.1, nI m, G.2.2.2.1, upd G.2.2.2.2.1 m 0, G.2.2.2.2.2.1, G.2.2.2.2.2.2.1, G.2.2.2.2.2.2.2.1, G.2.2.2.2.2.2.2.2.1, G.2.2.2.2.2.2.2.2.2.1, wonO (nI (1 - m)))
def gsO (G : GS) : Int32 := G.2.2.2.2.2.2.2.2.2.2
theorem tMake {Γ : CT} {w : PW} {f n : Nat → Int32} {m : Nat} {jp : Int32} {cl lo : Nat → Int32} {ps : List T3} {cs mk qt oc : Int32} {l : List HP} {j : Nat} {q : HP} {sec : Int32} (hg : isGm w 1 f n (nI m) jp cl lo ps cs mk qt oc) (hm : m < 2) (hh : isHp w 37 l) (hq : l[j]? = some q) (hto : q.2.1 < 48) (hfr : q.1 < 48) (hps : qtB f q = true → ps.length < 61) : Cl Γ yX1_makeHop XX1_makeHop 5 0 0 [.ref 1, .ref 37, .int (nI j), .int sec] w (rN (fun w1 => Fr w w1 (gS 1) ∧ isGS w1 1 (hopG (f, n, nI m, jp, cl, lo, ps, cs, mk, qt, oc) m q sec))) := by
  refine Cl.mono (tX1_makeHop hg hm hh hq hto hfr (by decide) hps) (fun r w1 hz => ⟨hz.1, ?_⟩)
  have h2 := hz.2
  unfold hopG
  by_cases hs : sec ≤ cl m
  · rw [if_pos hs] at h2
    rw [if_pos hs]
    exact h2
  · rw [if_neg hs] at h2
    rw [if_neg hs]
    exact h2
theorem side_01 {m : Nat} (hm : m < 2) : nI m = 0 ∨ nI m = 1 := of_decide_eq_true (side_t hm)
set_option maxRecDepth 100000 in
theorem tX6_hop {Γ : CT} {w : PW} {f n : Nat → Int32} {m : Nat} {jp : Int32} {cl lo : Nat → Int32} {ps : List T3} {cs mk qt oc : Int32} {H : List GS} {S : Nat → Option GS} {pf : Nat → Int32} {pn : Nat} {x sec : Int32} (hr : isRD w (f, n, nI m, jp, cl, lo, ps, cs, mk, qt, oc) H S pf pn) (hm : m < 2) (hps : ∀ q ∈ hopsN f (nI m) jp oc, qtB f q = true → ps.length < 61) : Cl Γ yX6_hop XX6_hop 7 7 252 [.ref 0, .int x, .int sec] w (fun r w1 => if hasO (hopsN f (nI m) jp oc) x = true then (if 0 ≤ sec ∧ sec ≤ 9999 then (∃ q, (hopsN f (nI m) jp oc)[x.toNatClampNeg]? = some q ∧ rP (gsO (hopG (f, n, nI m, jp, cl, lo, ps, cs, mk, qt, oc) m q sec)) (toRD w (hopG (f, n, nI m, jp, cl, lo, ps, cs, mk, qt, oc) m q sec) (keepL H (f, n, nI m, jp, cl, lo, ps, cs, mk, qt, oc)) S pf pn) r w1) else rP (-2) (toRD w (f, n, nI m, jp, cl, lo, ps, cs, mk, qt, oc) H S pf pn) r w1) else rP (-1) (toRD w (f, n, nI m, jp, cl, lo, ps, cs, mk, qt, oc) H S pf pn) r w1) := by
  refine Cl.of (ls := [some (.ref 0), some (.int x), some (.int sec), none]) rfl (by decide +kernel) (fun h => by cases h) (Nat.le_of_ble_eq_true rfl) rfl ?_
  obtain ⟨⟨r0, r13, r14, r15⟩, rg, ⟨st, sl, r8, r9, r10, rH, rp, rS, rk⟩, rd, rs⟩ := id hr
  have rG : isGm w 1 f n (nI m) jp cl lo ps cs mk qt oc := rg
  obtain ⟨g1, gb, g5, g6, gl, pfG, gO, g7⟩ := id rG
  have gb0 := gb.1
  have rd0 := rd.1
  refine r_aload_n 1 dX6_hop_0 rfl rfl rfl ?_
  refine r_callV0 4 dX6_hop_1 rfl (tX6_hopsOfNow hr (side_01 hm)) l_X6_92 mX6_hopsOfNow rfl (by repeat (first | assumption | exact isBd.o (by assumption) | exact isHp.o (by assumption) | exact isGm.o (by assumption) | exact isPd.o (by assumption) | refine gs_eq ?_ | refine gs_ne (by omega) ?_ | exact is_of (by assumption) | refine gs_is ?_)) rfl (by decide) (Nat.le_of_ble_eq_true rfl) (by decide) (qRP fun w1 hk => ?_)
  obtain ⟨⟨hr1, hM1⟩, hF1, hsc1, hh1, hb1⟩ : toRD w (f, n, nI m, jp, cl, lo, ps, cs, mk, qt, oc) H S pf pn w1 ∧ Fr w w1 (fun q => 16 ≤ q ∧ q < 43) ∧ isSc w1 ∧ isHp w1 37 (hopsN f (nI m) jp oc) ∧ isBd w1 34 f n (nI m) jp := ⟨hn_rd hr hk, hk⟩
  obtain ⟨⟨r01, r131, r141, r151⟩, rg1, ⟨st1, sl1, r81, r91, r101, rH1, rp1, rS1, rk1⟩, rd1, rs1⟩ := id hr1
  have rG1 : isGm w1 1 f n (nI m) jp cl lo ps cs mk qt oc := rg1
  obtain ⟨g11, gb1, g51, g61, gl1, pfG1, gO1, g71⟩ := id rG1
  have gb01 := gb1.1
  have rd01 := rd1.1
  have hh10 := hh1.o
  refine r_astore_n (ls1 := [_, _, _, _]) 5 dX6_hop_4 rfl (by decide) rfl rfl rfl ?_
  refine r_aload_n 6 dX6_hop_5 rfl rfl rfl ?_
  refine r_iload_n 7 dX6_hop_6 rfl rfl ?_
  refine r_callV0 10 dX6_hop_7 rfl (tX3_has hh1) l_X6_96 mX3_has rfl (by repeat (first | assumption | exact isBd.o (by assumption) | exact isHp.o (by assumption) | exact isGm.o (by assumption) | exact isPd.o (by assumption) | refine gs_eq ?_ | refine gs_ne (by omega) ?_ | exact is_of (by assumption) | refine gs_is ?_)) rfl (by decide) (Nat.le_of_ble_eq_true rfl) (by decide) (qI ?_)
  refine r_if_ne 15 13 dX6_hop_10 (by decide) rfl (fun q10 => ?_) (fun q10 => ?_)
  · obtain ⟨j, hj, rfl⟩ := hasO_ix (by have := hopsN_len (f := f) (jp := jp) (oc := oc) (side_01 hm); omega) (ne_f q10)
    obtain ⟨q, hq⟩ : ∃ q, (hopsN f (nI m) jp oc)[j]? = some q := ⟨_, List.getElem?_eq_getElem hj⟩
    obtain ⟨hfr, hto, hsd⟩ := hopsN_to hq
    refine r_iload_n 16 dX6_hop_15 rfl rfl ?_
    refine r_if_lt 26 19 dX6_hop_16 (by decide) rfl (fun q16 => ?_) (fun q16 => ?_)
    · refine r_bipush (v := (-2)) 28 dX6_hop_26 rfl (by decide) ?_
      refine r_iret dX6_hop_28 rfl (by decide) (by decide) ?_
      rw [if_pos (ne_f q10), if_neg (by first | exact (fun z => Int32.not_lt.mpr z.1 q16) | exact (fun z => q23 z.2))]
      exact ⟨rfl, hr1, hM1⟩
    · refine r_iload_n 20 dX6_hop_19 rfl rfl ?_
      refine r_sipush (v := 9999) 23 dX6_hop_20 rfl (by decide) ?_
      refine r_icmp_le 29 26 dX6_hop_23 (by decide) rfl (fun q23 => ?_) (fun q23 => ?_)
      · refine r_aload_n 30 dX6_hop_29 rfl rfl rfl ?_
        refine r_getf 33 dX6_hop_30 rfl f_X6_19.r (by repeat (first | assumption | exact isBd.o (by assumption) | exact isHp.o (by assumption) | exact isGm.o (by assumption) | exact isPd.o (by assumption) | refine gs_eq ?_ | refine gs_ne (by omega) ?_ | exact is_of (by assumption) | refine gs_is ?_)) rfl ?_
        refine r_aload_n 34 dX6_hop_33 rfl rfl rfl ?_
        refine r_getf 37 dX6_hop_34 rfl f_X6_10.r (by repeat (first | assumption | exact isBd.o (by assumption) | exact isHp.o (by assumption) | exact isGm.o (by assumption) | exact isPd.o (by assumption) | refine gs_eq ?_ | refine gs_ne (by omega) ?_ | exact is_of (by assumption) | refine gs_is ?_)) rfl ?_
        refine r_callV 40 dX6_hop_37 rfl (tKeep hr1) l_X6_47 mX2_keep rfl (by repeat (first | assumption | exact isBd.o (by assumption) | exact isHp.o (by assumption) | exact isGm.o (by assumption) | exact isPd.o (by assumption) | refine gs_eq ?_ | refine gs_ne (by omega) ?_ | exact is_of (by assumption) | refine gs_is ?_)) rfl (by decide) (Nat.le_of_ble_eq_true rfl) (by decide) (qN fun w2 hk2 => ?_)
        obtain ⟨⟨hr2, hM2⟩, hF2⟩ := hk2
        obtain ⟨⟨r02, r132, r142, r152⟩, rg2, ⟨st2, sl2, r82, r92, r102, rH2, rp2, rS2, rk2⟩, rd2, rs2⟩ := id hr2
        have rG2 : isGm w2 1 f n (nI m) jp cl lo ps cs mk qt oc := rg2
        obtain ⟨g12, gb2, g52, g62, gl2, pfG2, gO2, g72⟩ := id rG2
        have gb02 := gb2.1
        have rd02 := rd2.1
        have hh2 := hh1.ag (fun q a b => hF2 q (by omega) (by omega) (by omega))
        refine r_aload_n 41 dX6_hop_40 rfl rfl rfl ?_
        refine r_getf 44 dX6_hop_41 rfl f_X6_10.r (by repeat (first | assumption | exact isBd.o (by assumption) | exact isHp.o (by assumption) | exact isGm.o (by assumption) | exact isPd.o (by assumption) | refine gs_eq ?_ | refine gs_ne (by omega) ?_ | exact is_of (by assumption) | refine gs_is ?_)) rfl ?_
        refine r_aload_n 45 dX6_hop_44 rfl rfl rfl ?_
        refine r_iload_n 46 dX6_hop_45 rfl rfl ?_
        refine r_iload_n 47 dX6_hop_46 rfl rfl ?_
        refine r_callV0 50 dX6_hop_47 rfl (tMake rG2 hm hh2 hq hto hfr (hps q (List.mem_of_getElem? hq))) l_X6_101 mX1_makeHop rfl (by repeat (first | assumption | exact isBd.o (by assumption) | exact isHp.o (by assumption) | exact isGm.o (by assumption) | exact isPd.o (by assumption) | refine gs_eq ?_ | refine gs_ne (by omega) ?_ | exact is_of (by assumption) | refine gs_is ?_)) rfl (by decide) (Nat.le_of_ble_eq_true rfl) (by decide) (qN fun w3 hk3 => ?_)
        have e0 := (hk3.1.2 0 (by unfold gS; omega)).trans r02
        have e1 := hk3.2.1
        refine r_aload_n 51 dX6_hop_50 rfl rfl rfl ?_
        refine r_getf 54 dX6_hop_51 rfl f_X6_10.r (by repeat (first | assumption | exact isBd.o (by assumption) | exact isHp.o (by assumption) | exact isGm.o (by assumption) | exact isPd.o (by assumption) | refine gs_eq ?_ | refine gs_ne (by omega) ?_ | exact is_of (by assumption) | refine gs_is ?_)) rfl ?_
        refine r_getf 57 dX6_hop_54 rfl f_X6_105.r (by repeat (first | assumption | exact isBd.o (by assumption) | exact isHp.o (by assumption) | exact isGm.o (by assumption) | exact isPd.o (by assumption) | refine gs_eq ?_ | refine gs_ne (by omega) ?_ | exact is_of (by assumption) | refine gs_is ?_)) rfl ?_
        refine r_iret dX6_hop_57 rfl (by decide) (by decide) ?_
        rw [if_pos (ne_f q10), if_pos ⟨Int32.not_lt.mp q16, q23⟩]
        exact ⟨q, by rw [nI_clamp (by have := hh1.1; omega)]; exact hq, rfl, toRD.tr (toRD.tr ⟨hr1, hM1⟩ ⟨hr2, hM2⟩) (hr2.game hk3.1 hk3.2)⟩
      · refine r_bipush (v := (-2)) 28 dX6_hop_26 rfl (by decide) ?_
        refine r_iret dX6_hop_28 rfl (by decide) (by decide) ?_
        rw [if_pos (ne_f q10), if_neg (by first | exact (fun z => Int32.not_lt.mpr z.1 q16) | exact (fun z => q23 z.2))]
        exact ⟨rfl, hr1, hM1⟩
  · refine r_iconst (v := (-1)) 14 dX6_hop_13 rfl (by decide) ?_
    refine r_iret dX6_hop_14 rfl (by decide) (by decide) ?_
    rw [if_neg (eq_f q10)]
    exact ⟨rfl, hr1, hM1⟩

theorem fI_get {p : HP → Bool} : ∀ (l : List HP) (k : Nat), (fI p l k = -6 ∧ ∀ q ∈ l, p q = false) ∨ ∃ j q, l[j]? = some q ∧ p q = true ∧ fI p l k = nI (k + j)
  | [], k => Or.inl ⟨rfl, fun q h => by simp at h⟩
  | a :: t, k => by
    unfold fI
    by_cases h : p a = true
    · rw [if_pos h]
      exact Or.inr ⟨0, a, rfl, h, rfl⟩
    · rw [if_neg h]
      rcases fI_get t (k + 1) with h1 | ⟨j, q, h1, h2, h3⟩
      · refine Or.inl ⟨h1.1, fun q hq => ?_⟩
        rcases List.mem_cons.mp hq with e | e
        · rw [e]; simpa using h
        · exact h1.2 q e
      · exact Or.inr ⟨j + 1, q, by simpa using h1, h2, by rw [h3]; congr 1; omega⟩
theorem nI_n6 {j : Nat} (hj : j ≤ 192) : ¬ nI j = -6 := by
  intro e
  have h1 : (nI j).toInt = (-6 : Int32).toInt := by rw [e]
  rw [nI_toInt (by omega)] at h1
  have h2 : (-6 : Int32).toInt = -6 := by decide
  omega
set_option maxRecDepth 100000 in
theorem tX6_play {Γ : CT} {w : PW} {f n : Nat → Int32} {m : Nat} {jp : Int32} {cl lo : Nat → Int32} {ps : List T3} {cs mk qt oc : Int32} {H : List GS} {S : Nat → Option GS} {pf : Nat → Int32} {pn : Nat} {x y : Int32} (hr : isRD w (f, n, nI m, jp, cl, lo, ps, cs, mk, qt, oc) H S pf pn) (hm : m < 2) (hps : ∀ q ∈ hopsN f (nI m) jp oc, qtB f q = true → ps.length < 61) : Cl Γ yX6_play XX6_play 7 7 252 [.ref 0, .int x, .int y] w (fun r w1 => if inI x 0 47 = true ∧ inI y 0 47 = true then (if fI (isFT x y) (hopsN f (nI m) jp oc) 0 = -6 then rP (-5) (toRD w (f, n, nI m, jp, cl, lo, ps, cs, mk, qt, oc) H S pf pn) r w1 else (∃ j q, (hopsN f (nI m) jp oc)[j]? = some q ∧ fI (isFT x y) (hopsN f (nI m) jp oc) 0 = nI j ∧ rP (gsO (hopG (f, n, nI m, jp, cl, lo, ps, cs, mk, qt, oc) m q 0)) (toRD w (hopG (f, n, nI m, jp, cl, lo, ps, cs, mk, qt, oc) m q 0) (keepL H (f, n, nI m, jp, cl, lo, ps, cs, mk, qt, oc)) S pf pn) r w1)) else rI (-1) w r w1) := by
  refine Cl.of (ls := [some (.ref 0), some (.int x), some (.int y), none, none]) rfl (by decide +kernel) (fun h => by cases h) (Nat.le_of_ble_eq_true rfl) rfl ?_
  obtain ⟨⟨r0, r13, r14, r15⟩, rg, ⟨st, sl, r8, r9, r10, rH, rp, rS, rk⟩, rd, rs⟩ := id hr
  have rG : isGm w 1 f n (nI m) jp cl lo ps cs mk qt oc := rg
  obtain ⟨g1, gb, g5, g6, gl, pfG, gO, g7⟩ := id rG
  have gb0 := gb.1
  have rd0 := rd.1
  refine r_iload_n 1 dX6_play_0 rfl rfl ?_
  refine r_callS0 4 dX6_play_1 rfl (tX6_isSquare) l_X6_65 mX6_isSquare rfl (by decide) (Nat.le_of_ble_eq_true rfl) (by decide) (qI ?_)
  refine r_if_eq 14 7 dX6_play_4 (by decide) rfl (fun q4 => ?_) (fun q4 => ?_)
  · refine r_iconst (v := (-1)) 15 dX6_play_14 rfl (by decide) ?_
    refine r_iret dX6_play_15 rfl (by decide) (by decide) ?_
    rw [if_neg (by first | exact (fun z => eq_f q4 z.1) | exact (fun z => eq_f q11 z.2))]
    exact ⟨rfl, rfl⟩
  · refine r_iload_n 8 dX6_play_7 rfl rfl ?_
    refine r_callS0 11 dX6_play_8 rfl (tX6_isSquare) l_X6_65 mX6_isSquare rfl (by decide) (Nat.le_of_ble_eq_true rfl) (by decide) (qI ?_)
    refine r_if_ne 16 14 dX6_play_11 (by decide) rfl (fun q11 => ?_) (fun q11 => ?_)
    · refine r_aload_n 17 dX6_play_16 rfl rfl rfl ?_
      refine r_callV0 20 dX6_play_17 rfl (tX6_hopsOfNow hr (side_01 hm)) l_X6_92 mX6_hopsOfNow rfl (by repeat (first | assumption | exact isBd.o (by assumption) | exact isHp.o (by assumption) | exact isGm.o (by assumption) | exact isPd.o (by assumption) | refine gs_eq ?_ | refine gs_ne (by omega) ?_ | exact is_of (by assumption) | refine gs_is ?_)) rfl (by decide) (Nat.le_of_ble_eq_true rfl) (by decide) (qRP fun w1 hk => ?_)
      obtain ⟨⟨hr1, hM1⟩, hF1, hsc1, hh1, hb1⟩ : toRD w (f, n, nI m, jp, cl, lo, ps, cs, mk, qt, oc) H S pf pn w1 ∧ Fr w w1 (fun q => 16 ≤ q ∧ q < 43) ∧ isSc w1 ∧ isHp w1 37 (hopsN f (nI m) jp oc) ∧ isBd w1 34 f n (nI m) jp := ⟨hn_rd hr hk, hk⟩
      obtain ⟨⟨r01, r131, r141, r151⟩, rg1, ⟨st1, sl1, r81, r91, r101, rH1, rp1, rS1, rk1⟩, rd1, rs1⟩ := id hr1
      have rG1 : isGm w1 1 f n (nI m) jp cl lo ps cs mk qt oc := rg1
      obtain ⟨g11, gb1, g51, g61, gl1, pfG1, gO1, g71⟩ := id rG1
      have gb01 := gb1.1
      have rd01 := rd1.1
      have hh10 := hh1.o
      refine r_astore_n (ls1 := [_, _, _, _, _]) 21 dX6_play_20 rfl (by decide) rfl rfl rfl ?_
      refine r_aload_n 22 dX6_play_21 rfl rfl rfl ?_
      refine r_iload_n 23 dX6_play_22 rfl rfl ?_
      refine r_iload_n 24 dX6_play_23 rfl rfl ?_
      refine r_callV0 27 dX6_play_24 rfl (tX3_find hh1) l_X6_108 mX3_find rfl (by repeat (first | assumption | exact isBd.o (by assumption) | exact isHp.o (by assumption) | exact isGm.o (by assumption) | exact isPd.o (by assumption) | refine gs_eq ?_ | refine gs_ne (by omega) ?_ | exact is_of (by assumption) | refine gs_is ?_)) rfl (by decide) (Nat.le_of_ble_eq_true rfl) (by decide) (qI ?_)
      refine r_istore (ls1 := [_, _, _, _, _]) 29 dX6_play_27 rfl (by decide) rfl rfl ?_
      refine r_iload 31 dX6_play_29 rfl rfl ?_
      refine r_bipush (v := (-6)) 33 dX6_play_31 rfl (by decide) ?_
      refine r_icmp_ne 39 36 dX6_play_33 (by decide) rfl (fun q33 => ?_) (fun q33 => ?_)
      · rcases fI_get (p := isFT x y) (hopsN f (nI m) jp oc) 0 with h9 | ⟨j, q, hq, hpq, hj⟩
        · exact absurd h9.1 q33
        have hjl : j < (hopsN f (nI m) jp oc).length := (List.getElem?_eq_some_iff.mp hq).1
        rw [Nat.zero_add] at hj
        rw [hj]
        obtain ⟨hfr, hto, hsd⟩ := hopsN_to hq
        refine r_aload_n 40 dX6_play_39 rfl rfl rfl ?_
        refine r_getf 43 dX6_play_40 rfl f_X6_19.r (by repeat (first | assumption | exact isBd.o (by assumption) | exact isHp.o (by assumption) | exact isGm.o (by assumption) | exact isPd.o (by assumption) | refine gs_eq ?_ | refine gs_ne (by omega) ?_ | exact is_of (by assumption) | refine gs_is ?_)) rfl ?_
        refine r_aload_n 44 dX6_play_43 rfl rfl rfl ?_
        refine r_getf 47 dX6_play_44 rfl f_X6_10.r (by repeat (first | assumption | exact isBd.o (by assumption) | exact isHp.o (by assumption) | exact isGm.o (by assumption) | exact isPd.o (by assumption) | refine gs_eq ?_ | refine gs_ne (by omega) ?_ | exact is_of (by assumption) | refine gs_is ?_)) rfl ?_
        refine r_callV 50 dX6_play_47 rfl (tKeep hr1) l_X6_47 mX2_keep rfl (by repeat (first | assumption | exact isBd.o (by assumption) | exact isHp.o (by assumption) | exact isGm.o (by assumption) | exact isPd.o (by assumption) | refine gs_eq ?_ | refine gs_ne (by omega) ?_ | exact is_of (by assumption) | refine gs_is ?_)) rfl (by decide) (Nat.le_of_ble_eq_true rfl) (by decide) (qN fun w2 hk2 => ?_)
        obtain ⟨⟨hr2, hM2⟩, hF2⟩ := hk2
        obtain ⟨⟨r02, r132, r142, r152⟩, rg2, ⟨st2, sl2, r82, r92, r102, rH2, rp2, rS2, rk2⟩, rd2, rs2⟩ := id hr2
        have rG2 : isGm w2 1 f n (nI m) jp cl lo ps cs mk qt oc := rg2
        obtain ⟨g12, gb2, g52, g62, gl2, pfG2, gO2, g72⟩ := id rG2
        have gb02 := gb2.1
        have rd02 := rd2.1
        have hh2 := hh1.ag (fun q a b => hF2 q (by omega) (by omega) (by omega))
        refine r_aload_n 51 dX6_play_50 rfl rfl rfl ?_
        refine r_getf 54 dX6_play_51 rfl f_X6_10.r (by repeat (first | assumption | exact isBd.o (by assumption) | exact isHp.o (by assumption) | exact isGm.o (by assumption) | exact isPd.o (by assumption) | refine gs_eq ?_ | refine gs_ne (by omega) ?_ | exact is_of (by assumption) | refine gs_is ?_)) rfl ?_
        refine r_aload_n 55 dX6_play_54 rfl rfl rfl ?_
        refine r_iload 57 dX6_play_55 rfl rfl ?_
        refine r_iconst (v := 0) 58 dX6_play_57 rfl (by decide) ?_
        refine r_callV0 61 dX6_play_58 rfl (tMake rG2 hm hh2 hq hto hfr (hps q (List.mem_of_getElem? hq))) l_X6_101 mX1_makeHop rfl (by repeat (first | assumption | exact isBd.o (by assumption) | exact isHp.o (by assumption) | exact isGm.o (by assumption) | exact isPd.o (by assumption) | refine gs_eq ?_ | refine gs_ne (by omega) ?_ | exact is_of (by assumption) | refine gs_is ?_)) rfl (by decide) (Nat.le_of_ble_eq_true rfl) (by decide) (qN fun w3 hk3 => ?_)
        have e0 := (hk3.1.2 0 (by unfold gS; omega)).trans r02
        have e1 := hk3.2.1
        refine r_aload_n 62 dX6_play_61 rfl rfl rfl ?_
        refine r_getf 65 dX6_play_62 rfl f_X6_10.r (by repeat (first | assumption | exact isBd.o (by assumption) | exact isHp.o (by assumption) | exact isGm.o (by assumption) | exact isPd.o (by assumption) | refine gs_eq ?_ | refine gs_ne (by omega) ?_ | exact is_of (by assumption) | refine gs_is ?_)) rfl ?_
        refine r_getf 68 dX6_play_65 rfl f_X6_105.r (by repeat (first | assumption | exact isBd.o (by assumption) | exact isHp.o (by assumption) | exact isGm.o (by assumption) | exact isPd.o (by assumption) | refine gs_eq ?_ | refine gs_ne (by omega) ?_ | exact is_of (by assumption) | refine gs_is ?_)) rfl ?_
        refine r_iret dX6_play_68 rfl (by decide) (by decide) ?_
        rw [if_pos ⟨ne_f q4, ne_f q11⟩, if_neg (nI_n6 (by have := hh1.1; omega))]
        exact ⟨j, q, hq, rfl, rfl, toRD.tr (toRD.tr ⟨hr1, hM1⟩ ⟨hr2, hM2⟩) (hr2.game hk3.1 hk3.2)⟩
      · refine r_bipush (v := (-5)) 38 dX6_play_36 rfl (by decide) ?_
        refine r_iret dX6_play_38 rfl (by decide) (by decide) ?_
        rw [if_pos ⟨ne_f q4, ne_f q11⟩, if_pos q33]
        exact ⟨rfl, hr1, hM1⟩
    · refine r_iconst (v := (-1)) 15 dX6_play_14 rfl (by decide) ?_
      refine r_iret dX6_play_15 rfl (by decide) (by decide) ?_
      rw [if_neg (by first | exact (fun z => eq_f q4 z.1) | exact (fun z => eq_f q11 z.2))]
      exact ⟨rfl, rfl⟩

