/-! ===== the model: the calls that change the game ===== -/
def sdL (f : Nat → Int32) : Prop := ∀ m, m < 2 → pcK f (2 * m) 48 + pcK f (2 * m + 1) 48 ≤ 16
/-- what holds of every state of a game -/
def GI (X : MG) : Prop := okG X.1 ∧ okF X.1.1 ∧ nC X.1.1 X.1.2.1 ∧ sdL X.1.1 ∧ jjO X.1.1 X.1.2.2.1 X.1.2.2.2.1 ∧ (X.1.2.2.2.1 = -6 ∨ ∃ j, j < 48 ∧ X.1.2.2.2.1 = nI j) ∧ X.1.2.2.2.2.2.2.1 = X.2.map t3p ∧ (∀ p ∈ X.2, okp3 p) ∧ (∀ m, m < 2 → 0 ≤ X.1.2.2.2.2.1 m) ∧ 0 ≤ X.1.2.2.2.2.2.2.2.1 ∧ (gsO X.1 = 0 → hopsC X.1.1 X.1.2.2.1 X.1.2.2.2.1 ≠ [])
def psM (X : MG) (m : Nat) (q : HP) : List P3 := (if qtB X.1.1 q = true then X.2 else []) ++ [(mkF X.1.1 (nI m) q, mkM X.1.1 (nI m) q, mkJ X.1.1 (nI m) q)]
def hopM (X : MG) (m : Nat) (q : HP) (sec : Int32) : MG := (hopG X.1 m q sec, if sec ≤ X.1.2.2.2.2.1 m then psM X m q else X.2)
theorem psM_map {X : MG} {m : Nat} {q : HP} (h : X.1.2.2.2.2.2.2.1 = X.2.map t3p) : psO X.1.1 (nI m) X.1.2.2.2.2.2.2.1 q = (psM X m q).map t3p := by
  unfold psO psM
  rw [List.map_append, h]
  split
  · rfl
  · rfl
theorem nOf_C {f n : Nat → Int32} (h : nC f n) {i : Nat} (hi : i < 4) : nOf n (nI i) = nI (pcK f i 48) := by
  rw [nOf_nI hi, h i hi]
theorem men_C {f n : Nat → Int32} (h : nC f n) {m : Nat} (hm : m < 2) : menO n (nI m) = nI (pcK f (2 * m) 48) ∧ kngO n (nI m) = nI (pcK f (2 * m + 1) 48) := by
  rcases side_m hm with rfl | rfl
  · exact ⟨nOf_C h (by decide : 0 < 4), nOf_C h (by decide : 1 < 4)⟩
  · exact ⟨nOf_C h (by decide : 2 < 4), nOf_C h (by decide : 3 < 4)⟩
theorem inI_has {l : List HP} {x : Int32} (hl : l.length < 1000000) : inI x 0 (nI l.length - 1) = hasO l x := by
  unfold inI hasO
  have e : x ≤ nI l.length - 1 ↔ x < nI l.length := by
    rw [Int32.le_iff_toInt_le, Int32.lt_iff_toInt_lt, show (1 : Int32) = nI 1 from rfl, pk_sub_toInt (by omega) (by decide), nI_toInt (by omega)]
    omega
  simp only [e]
theorem inI_s {s : Int32} : inI s 0 1 = decide (s = 0 ∨ s = 1) := by
  by_cases h : s = 0 ∨ s = 1
  · rw [decide_eq_true h]
    rcases h with rfl | rfl <;> decide
  · rw [decide_eq_false h]
    refine Bool.eq_false_iff.mpr (fun z => h ?_)
    obtain ⟨j, hj, e⟩ := inI_ix (n := 1) (by decide) z
    rcases (show j = 0 ∨ j = 1 by omega) with rfl | rfl
    · exact Or.inl e
    · exact Or.inr e
theorem inI_p {p : Int32} (h : inI p 0 3 = true) : okP p := by
  obtain ⟨j, hj, e⟩ := inI_ix (n := 3) (by decide) h
  rcases (show j = 0 ∨ j = 1 ∨ j = 2 ∨ j = 3 by omega) with rfl | rfl | rfl | rfl
  · exact Or.inr (Or.inl e)
  · exact Or.inr (Or.inr (Or.inl e))
  · exact Or.inr (Or.inr (Or.inr (Or.inl e)))
  · exact Or.inr (Or.inr (Or.inr (Or.inr e)))
set_option maxRecDepth 100000 in
theorem tX7_clock {Γ : CT} {w : PW} {f n : Nat → Int32} {mv jp : Int32} {cl lo : Nat → Int32} {ps : List T3} {cs mk qt oc : Int32} {P : List P3} {HM : List MG} {SM : Nat → Option MG} {pf : Nat → Int32} {pn : Nat} {s : Int32} (hr : isMD w ((f, n, mv, jp, cl, lo, ps, cs, mk, qt, oc), P) HM SM pf pn) (hI : GI ((f, n, mv, jp, cl, lo, ps, cs, mk, qt, oc), P)) : Cl Γ yX7_clock XX7_clock 9 0 0 [.ref 43, .int s] w (if 10 ≤ s ∧ s ≤ 9999 then rP cs (toMD w ((f, n, mv, jp, cl, lo, ps, s, mk, qt, oc), P) (keepM HM ((f, n, mv, jp, cl, lo, ps, cs, mk, qt, oc), P)) SM pf pn) else rI (-2) w) := by
  refine Cl.of (ls := [some (.ref 43), some (.int s), none]) rfl (by decide +kernel) (fun h => by cases h) (Nat.le_of_ble_eq_true rfl) rfl ?_
  obtain ⟨hk, ⟨z, hz, hG⟩, W, hW⟩ := id hr
  obtain ⟨rm, sp, wr, pa, sl, sv, rd, ho, hpa, hH6, hpH, hsl, hsv, hpS, hpd, hpn, hrd⟩ := id hk
  have hA : zA z f mv oc cs cl mk jp lo qt P := hG.1
  have hP61 := hG.2
  obtain ⟨hok, hf, hnC, hsL, hjj, hjp, hpP, hPo, hclp, hcsp, hoc0⟩ := id hI
  have hf : okF f := hf
  have hnC : nC f n := hnC
  have hsL : sdL f := hsL
  have hjj : jjO f mv jp := hjj
  have hmv : mv = 0 ∨ mv = 1 := hok.1
  have hpP : ps = P.map t3p := hpP
  have hPo : ∀ p ∈ P, okp3 p := hPo
  refine r_iload_n 1 dX7_clock_0 rfl rfl ?_
  refine r_bipush (v := 10) 3 dX7_clock_1 rfl (by decide) ?_
  refine r_sipush (v := 9999) 6 dX7_clock_3 rfl (by decide) ?_
  refine r_callS0 9 dX7_clock_6 rfl (tX7_in) l_X7_61 mX7_in rfl (by decide) (Nat.le_of_ble_eq_true rfl) (by decide) (qI ?_)
  refine r_if_ne 15 12 dX7_clock_9 (by decide) rfl (fun q9 => ?_) (fun q9 => ?_)
  · refine r_aload_n 16 dX7_clock_15 rfl rfl rfl ?_
    refine r_callV0 19 dX7_clock_16 rfl (tX7_record hk hz hG) l_X7_76 mX7_record rfl (by repeat (first | assumption | refine gs_eq ?_ | refine gs_ne (by omega) ?_ | exact is_of (by assumption) | refine gs_is ?_)) rfl (by decide) (Nat.le_of_ble_eq_true rfl) (by decide) (qN fun w1 h1 => ?_)
    obtain ⟨hF1, hk1⟩ := h1
    have hz1 := (hF1.2 44 (by decide)).trans hz
    obtain ⟨rm1, sp1, wr1, pa1, sl1, sv1, rd1, ho1, -⟩ := id hk1
    have hW1 := hW.fr hF1 (fun q a b => by unfold wS at a; omega)
    refine r_aload_n 20 dX7_clock_19 rfl rfl rfl ?_
    refine r_getf 23 dX7_clock_20 rfl f_X7_7.r (by repeat (first | assumption | refine gs_eq ?_ | refine gs_ne (by omega) ?_ | exact is_of (by assumption) | refine gs_is ?_)) rfl ?_
    refine r_bipush (v := 50) 25 dX7_clock_23 rfl (by decide) ?_
    refine r_iald 26 dX7_clock_25 rfl (50) (by repeat (first | assumption | refine gs_eq ?_ | refine gs_ne (by omega) ?_ | exact is_of (by assumption) | refine gs_is ?_)) rfl (by decide) (by decide) ?_
    rw [hA.2.2.2.1]
    refine r_istore_n (ls1 := [_, _, _]) 27 dX7_clock_26 rfl (by decide) rfl rfl ?_
    refine r_aload_n 28 dX7_clock_27 rfl rfl rfl ?_
    refine r_getf 31 dX7_clock_28 rfl f_X7_7.r (by repeat (first | assumption | refine gs_eq ?_ | refine gs_ne (by omega) ?_ | exact is_of (by assumption) | refine gs_is ?_)) rfl ?_
    refine r_bipush (v := 50) 33 dX7_clock_31 rfl (by decide) ?_
    refine r_iload_n 34 dX7_clock_33 rfl rfl ?_
    refine r_iast 35 dX7_clock_34 rfl (50) (by repeat (first | assumption | refine gs_eq ?_ | refine gs_ne (by omega) ?_ | exact is_of (by assumption) | refine gs_is ?_)) rfl (by decide) (by decide) ?_
    refine r_iload_n 36 dX7_clock_35 rfl rfl ?_
    refine r_iret dX7_clock_36 rfl (by decide) (by decide) ?_
    rw [if_pos (of_decide_eq_true (ne_f q9))]
    exact ⟨rfl, Fr.tr hF1.mR (Fr.st (by unfold mS; decide)), hk1.z (Fr.st (Or.inl rfl)), ⟨_, (by repeat (first | assumption | refine gs_eq ?_ | refine gs_ne (by omega) ?_ | exact is_of (by assumption) | refine gs_is ?_)), hA.s50, hP61⟩, W, hW1.s44 (Fr.st rfl)⟩
  · refine r_bipush (v := (-2)) 14 dX7_clock_12 rfl (by decide) ?_
    refine r_iret dX7_clock_14 rfl (by decide) (by decide) ?_
    rw [if_neg (of_decide_eq_false (bI_0.mp q9))]
    exact ⟨rfl, rfl⟩

set_option maxRecDepth 100000 in
theorem tX7_begin {Γ : CT} {w : PW} {f n : Nat → Int32} {mv jp : Int32} {cl lo : Nat → Int32} {ps : List T3} {cs mk qt oc : Int32} {P : List P3} {HM : List MG} {SM : Nat → Option MG} {pf : Nat → Int32} {pn : Nat} {e : Bool} {F N : Nat → Int32} (hr : isMD w ((f, n, mv, jp, cl, lo, ps, cs, mk, qt, oc), P) HM SM pf pn) (hFN : bgFN e F N) : Cl Γ yX7_begin XX7_begin 9 0 0 [.ref 43, .int (bI e)] w (rP (menO N 0 + kngO N 0 + (menO N 1 + kngO N 1)) (toMD w ((F, N, 0, -6, (fun _ => cs), (fun _ => 0), [t3O F 0 (-6)], cs, 0, 0, judO F 0 [t3O F 0 (-6)] 0), [(F, 0, -6)]) (keepM HM ((f, n, mv, jp, cl, lo, ps, cs, mk, qt, oc), P)) SM pf pn)) := by
  refine Cl.of (ls := [some (.ref 43), some (.int (bI e))]) rfl (by decide +kernel) (fun h => by cases h) (Nat.le_of_ble_eq_true rfl) rfl ?_
  obtain ⟨hk, ⟨z, hz, hG⟩, W, hW⟩ := id hr
  obtain ⟨rm, sp, wr, pa, sl, sv, rd, ho, hpa, hH6, hpH, hsl, hsv, hpS, hpd, hpn, hrd⟩ := id hk
  have hA : zA z f mv oc cs cl mk jp lo qt P := hG.1
  have hP61 := hG.2
  refine r_aload_n 1 dX7_begin_0 rfl rfl rfl ?_
  refine r_callV0 4 dX7_begin_1 rfl (tX7_record hk hz hG) l_X7_76 mX7_record rfl (by repeat (first | assumption | refine gs_eq ?_ | refine gs_ne (by omega) ?_ | exact is_of (by assumption) | refine gs_is ?_)) rfl (by decide) (Nat.le_of_ble_eq_true rfl) (by decide) (qN fun w1 h1 => ?_)
  obtain ⟨hF1, hk1⟩ := h1
  have hz1 := (hF1.2 44 (by decide)).trans hz
  obtain ⟨rm1, sp1, wr1, pa1, sl1, sv1, rd1, ho1, -⟩ := id hk1
  have hW1 := hW.fr hF1 (fun q a b => by unfold wS at a; omega)
  refine r_aload_n 5 dX7_begin_4 rfl rfl rfl ?_
  refine r_iload_n 6 dX7_begin_5 rfl rfl ?_
  refine r_callV0 9 dX7_begin_6 rfl (tX7_start ho1 hz1 hA hW1 hFN) l_X7_57 mX7_start rfl (by repeat (first | assumption | refine gs_eq ?_ | refine gs_ne (by omega) ?_ | exact is_of (by assumption) | refine gs_is ?_)) rfl (by decide) (Nat.le_of_ble_eq_true rfl) (by decide) (qN fun w2 j => ?_)
  obtain ⟨j1, y3, V3, jz3, jA3, jW3⟩ := j
  have ho2 := (j1.2 43 (by unfold zS wS; omega)).trans ho1
  have hm0 := men_C (bg_C hFN) (show 0 < 2 by decide)
  have hm1 := men_C (bg_C hFN) (show 1 < 2 by decide)
  refine r_aload_n 10 dX7_begin_9 rfl rfl rfl ?_
  refine r_iconst (v := nI 0) 11 dX7_begin_10 rfl (by decide) ?_
  refine r_callV0 14 dX7_begin_11 rfl (tX7_all (sd := 0) ho2 jz3 jA3.1) l_X7_146 mX7_all rfl (by repeat (first | assumption | refine gs_eq ?_ | refine gs_ne (by omega) ?_ | exact is_of (by assumption) | refine gs_is ?_)) rfl (by decide) (Nat.le_of_ble_eq_true rfl) (by decide) (qI ?_)
  refine r_aload_n 15 dX7_begin_14 rfl rfl rfl ?_
  refine r_iconst (v := nI 1) 16 dX7_begin_15 rfl (by decide) ?_
  refine r_callV0 19 dX7_begin_16 rfl (tX7_all (sd := 1) ho2 jz3 jA3.1) l_X7_146 mX7_all rfl (by repeat (first | assumption | refine gs_eq ?_ | refine gs_ne (by omega) ?_ | exact is_of (by assumption) | refine gs_is ?_)) rfl (by decide) (Nat.le_of_ble_eq_true rfl) (by decide) (qI ?_)
  refine r_iadd 20 dX7_begin_19 rfl ?_
  refine r_iret dX7_begin_20 rfl (by decide) (by decide) ?_
  exact ⟨(by rw [show menO N 0 = menO N (nI 0) from rfl, show kngO N 0 = kngO N (nI 0) from rfl, show menO N 1 = menO N (nI 1) from rfl, show kngO N 1 = kngO N (nI 1) from rfl, hm0.1, hm0.2, hm1.1, hm1.2]; simp only [nI_add]), Fr.tr hF1.mR j1.mZ, hk1.z j1, ⟨_, jz3, jA3, Nat.le_of_ble_eq_true rfl⟩, V3, jW3⟩

set_option maxRecDepth 100000 in
theorem tX7_set {Γ : CT} {w : PW} {f n : Nat → Int32} {mv jp : Int32} {cl lo : Nat → Int32} {ps : List T3} {cs mk qt oc : Int32} {P : List P3} {HM : List MG} {SM : Nat → Option MG} {pf : Nat → Int32} {pn : Nat} {s p : Int32} (hr : isMD w ((f, n, mv, jp, cl, lo, ps, cs, mk, qt, oc), P) HM SM pf pn) (hI : GI ((f, n, mv, jp, cl, lo, ps, cs, mk, qt, oc), P)) : Cl Γ yX7_set XX7_set 9 0 0 [.ref 43, .int s, .int p] w (if inI s 0 47 = true then (if p ≠ -6 ∧ inI p 0 3 = false then rI (-2) w else if otm n p (pAt f s) = true then rI (-4) w else rP (pAt f s) (toMD w (((plF f s p), (plN f n s p), mv, -6, cl, (fun _ => 0), [t3O (plF f s p) mv (-6)], cs, 0, 0, judO (plF f s p) mv [t3O (plF f s p) mv (-6)] 0), [((plF f s p), mv, -6)]) (keepM HM ((f, n, mv, jp, cl, lo, ps, cs, mk, qt, oc), P)) SM pf pn)) else rI (-1) w) := by
  refine Cl.of (ls := [some (.ref 43), some (.int s), some (.int p), none]) rfl (by decide +kernel) (fun h => by cases h) (Nat.le_of_ble_eq_true rfl) rfl ?_
  obtain ⟨hk, ⟨z, hz, hG⟩, W, hW⟩ := id hr
  obtain ⟨rm, sp, wr, pa, sl, sv, rd, ho, hpa, hH6, hpH, hsl, hsv, hpS, hpd, hpn, hrd⟩ := id hk
  have hA : zA z f mv oc cs cl mk jp lo qt P := hG.1
  have hP61 := hG.2
  obtain ⟨hok, hf, hnC, hsL, hjj, hjp, hpP, hPo, hclp, hcsp, hoc0⟩ := id hI
  have hf : okF f := hf
  have hnC : nC f n := hnC
  have hsL : sdL f := hsL
  have hjj : jjO f mv jp := hjj
  have hmv : mv = 0 ∨ mv = 1 := hok.1
  have hpP : ps = P.map t3p := hpP
  have hPo : ∀ p ∈ P, okp3 p := hPo
  refine r_iload_n 1 dX7_set_0 rfl rfl ?_
  refine r_callS0 4 dX7_set_1 rfl (tX7_isSquare) l_X7_149 mX7_isSquare rfl (by decide) (Nat.le_of_ble_eq_true rfl) (by decide) (qI ?_)
  refine r_if_ne 9 7 dX7_set_4 (by decide) rfl (fun q4 => ?_) (fun q4 => ?_)
  · refine r_iload_n 10 dX7_set_9 rfl rfl ?_
    refine r_bipush (v := (-6)) 12 dX7_set_10 rfl (by decide) ?_
    refine r_icmp_eq 27 15 dX7_set_12 (by decide) rfl (fun q12 => ?_) (fun q12 => ?_)
    · obtain ⟨j, hj47, rfl⟩ := inI_ix (n := 47) (by decide) (ne_f q4)
      have hj : j < 48 := by omega
      refine r_aload_n 28 dX7_set_27 rfl rfl rfl ?_
      refine r_getf 31 dX7_set_28 rfl f_X7_7.r (by repeat (first | assumption | refine gs_eq ?_ | refine gs_ne (by omega) ?_ | exact is_of (by assumption) | refine gs_is ?_)) rfl ?_
      refine r_iconst (v := 0) 32 dX7_set_31 rfl (by decide) ?_
      refine r_iload_n 33 dX7_set_32 rfl rfl ?_
      refine r_iadd 34 dX7_set_33 rfl ?_
      refine r_iald 35 dX7_set_34 rfl (j) (by repeat (first | assumption | refine gs_eq ?_ | refine gs_ne (by omega) ?_ | exact is_of (by assumption) | refine gs_is ?_)) (Int32.zero_add _) (by omega) (by decide) ?_
      rw [hA.1 j hj]
      refine r_istore_n (ls1 := [_, _, _, _]) 36 dX7_set_35 rfl (by decide) rfl rfl ?_
      refine r_iload_n 37 dX7_set_36 rfl rfl ?_
      refine r_bipush (v := (-6)) 39 dX7_set_37 rfl (by decide) ?_
      refine r_icmp_eq 75 42 dX7_set_39 (by decide) rfl (fun q39 => ?_) (fun q39 => ?_)
      · have hpk : okP p := by first | exact Or.inl q39 | exact hpk
        have ho_t : otm n p (pAt f (nI j)) = false := by
          unfold otm
          first
          | rw [if_pos (Or.inl q39)]
          | rw [if_pos (Or.inr (by rw [pAt_nI hj]; exact q58.symm))]
          | (rw [if_neg (fun z => z.elim q39 (fun y => q58 (by rw [pAt_nI hj] at y; exact y.symm))), em, hmc.1, hmc.2, nI_add]
             rw [Int32.sub_zero] at q69
             refine decide_eq_false (fun z => q69 ?_)
             have h1 := (nI_leI (a := 16) (b := pcK f (2 * m) 48 + pcK f (2 * m + 1) 48) (by decide) (by omega)).mp z
             rw [show pcK f (2 * m) 48 + pcK f (2 * m + 1) 48 = 16 by omega])
        refine r_aload_n 76 dX7_set_75 rfl rfl rfl ?_
        refine r_callV0 79 dX7_set_76 rfl (tX7_record hk hz hG) l_X7_76 mX7_record rfl (by repeat (first | assumption | refine gs_eq ?_ | refine gs_ne (by omega) ?_ | exact is_of (by assumption) | refine gs_is ?_)) rfl (by decide) (Nat.le_of_ble_eq_true rfl) (by decide) (qN fun w1 h1 => ?_)
        obtain ⟨hF1, hk1⟩ := h1
        have hz1 := (hF1.2 44 (by decide)).trans hz
        obtain ⟨rm1, sp1, wr1, pa1, sl1, sv1, rd1, ho1, -⟩ := id hk1
        have hW1 := hW.fr hF1 (fun q a b => by unfold wS at a; omega)
        refine r_aload_n 80 dX7_set_79 rfl rfl rfl ?_
        refine r_getf 83 dX7_set_80 rfl f_X7_7.r (by repeat (first | assumption | refine gs_eq ?_ | refine gs_ne (by omega) ?_ | exact is_of (by assumption) | refine gs_is ?_)) rfl ?_
        refine r_iconst (v := 0) 84 dX7_set_83 rfl (by decide) ?_
        refine r_iload_n 85 dX7_set_84 rfl rfl ?_
        refine r_iadd 86 dX7_set_85 rfl ?_
        refine r_iload_n 87 dX7_set_86 rfl rfl ?_
        refine r_iast 88 dX7_set_87 rfl (j) (by repeat (first | assumption | refine gs_eq ?_ | refine gs_ne (by omega) ?_ | exact is_of (by assumption) | refine gs_is ?_)) (Int32.zero_add _) (by omega) (by decide) ?_
        have ho1' := gs_ne (h := 44) (c := aI 431 (upd z j p)) (by decide) ho1
        have hfu : okF (upd f j p) := by rw [← plF_nI hj]; exact okF_pl hf hpk
        refine r_aload_n 89 dX7_set_88 rfl rfl rfl ?_
        refine r_callV0 92 dX7_set_89 rfl (tX7_beginHere ho1' (by repeat (first | assumption | refine gs_eq ?_ | refine gs_ne (by omega) ?_ | exact is_of (by assumption) | refine gs_is ?_)) (hA.sB (x := p) hj) (hW1.s44 (Fr.st rfl)) hfu hmv) l_X7_140 mX7_beginHere rfl (by repeat (first | assumption | refine gs_eq ?_ | refine gs_ne (by omega) ?_ | exact is_of (by assumption) | refine gs_is ?_)) rfl (by decide) (Nat.le_of_ble_eq_true rfl) (by decide) (qN fun w3 jb => ?_)
        obtain ⟨j1, y3, V3, jz3, jA3, jW3⟩ := jb
        rw [← plF_nI hj] at jA3
        refine r_iload_n 93 dX7_set_92 rfl rfl ?_
        refine r_iret dX7_set_93 rfl (by decide) (by decide) ?_
        rw [if_pos (ne_f q4), if_neg (by first | exact (fun z => z.1 q12) | exact (fun z => absurd (ne_f q21) (by rw [z.2]; decide))), if_neg (by rw [ho_t]; decide)]
        exact ⟨by rw [pAt_nI hj], Fr.tr (Fr.tr hF1.mR (Fr.st (by unfold mS; decide))) j1.mZ, (hk1.z (Fr.st (Or.inl rfl))).z j1, ⟨_, jz3, jA3, Nat.le_of_ble_eq_true rfl⟩, V3, jW3⟩
      · refine r_aload_n 43 dX7_set_42 rfl rfl rfl ?_
        refine r_iload_n 44 dX7_set_43 rfl rfl ?_
        have hpk : okP p := by first | exact inI_p (ne_f q21) | exact absurd q12 q39
        obtain ⟨m, hm, em, -⟩ := side_ix (sdO_01 hpk q39)
        have hsm := hsL m hm
        have hmc := men_C hnC hm
        refine r_callS0 47 dX7_set_44 rfl (tX7_sd hpk) l_X7_87 mX7_sideOf rfl (by decide) (Nat.le_of_ble_eq_true rfl) (by decide) (qI ?_)
        rw [em]
        refine r_callV0 50 dX7_set_47 rfl (tX7_all (sd := m) ho hz hA.1) l_X7_146 mX7_all rfl (by repeat (first | assumption | refine gs_eq ?_ | refine gs_ne (by omega) ?_ | exact is_of (by assumption) | refine gs_is ?_)) rfl (by decide) (Nat.le_of_ble_eq_true rfl) (by decide) (qI ?_)
        refine r_iload_n 51 dX7_set_50 rfl rfl ?_
        refine r_callS0 54 dX7_set_51 rfl (tX7_sd (hf j hj)) l_X7_87 mX7_sideOf rfl (by decide) (Nat.le_of_ble_eq_true rfl) (by decide) (qI ?_)
        refine r_iload_n 55 dX7_set_54 rfl rfl ?_
        refine r_callS0 58 dX7_set_55 rfl (tX7_sd hpk) l_X7_87 mX7_sideOf rfl (by decide) (Nat.le_of_ble_eq_true rfl) (by decide) (qI ?_)
        refine r_icmp_ne 65 61 dX7_set_58 (by decide) rfl (fun q58 => ?_) (fun q58 => ?_)
        · refine r_iconst (v := 0) 66 dX7_set_65 rfl (by decide) ?_
          refine r_isub 67 dX7_set_66 rfl ?_
          refine r_bipush (v := nI 16) 69 dX7_set_67 rfl (by decide) ?_
          refine r_icmp_ne 75 72 dX7_set_69 (by decide) rfl (fun q69 => ?_) (fun q69 => ?_)
          · have hpk : okP p := by first | exact Or.inl q39 | exact hpk
            have ho_t : otm n p (pAt f (nI j)) = false := by
              unfold otm
              first
              | rw [if_pos (Or.inl q39)]
              | rw [if_pos (Or.inr (by rw [pAt_nI hj]; exact q58.symm))]
              | (rw [if_neg (fun z => z.elim q39 (fun y => q58 (by rw [pAt_nI hj] at y; exact y.symm))), em, hmc.1, hmc.2, nI_add]
                 rw [Int32.sub_zero] at q69
                 refine decide_eq_false (fun z => q69 ?_)
                 have h1 := (nI_leI (a := 16) (b := pcK f (2 * m) 48 + pcK f (2 * m + 1) 48) (by decide) (by omega)).mp z
                 rw [show pcK f (2 * m) 48 + pcK f (2 * m + 1) 48 = 16 by omega])
            refine r_aload_n 76 dX7_set_75 rfl rfl rfl ?_
            refine r_callV0 79 dX7_set_76 rfl (tX7_record hk hz hG) l_X7_76 mX7_record rfl (by repeat (first | assumption | refine gs_eq ?_ | refine gs_ne (by omega) ?_ | exact is_of (by assumption) | refine gs_is ?_)) rfl (by decide) (Nat.le_of_ble_eq_true rfl) (by decide) (qN fun w1 h1 => ?_)
            obtain ⟨hF1, hk1⟩ := h1
            have hz1 := (hF1.2 44 (by decide)).trans hz
            obtain ⟨rm1, sp1, wr1, pa1, sl1, sv1, rd1, ho1, -⟩ := id hk1
            have hW1 := hW.fr hF1 (fun q a b => by unfold wS at a; omega)
            refine r_aload_n 80 dX7_set_79 rfl rfl rfl ?_
            refine r_getf 83 dX7_set_80 rfl f_X7_7.r (by repeat (first | assumption | refine gs_eq ?_ | refine gs_ne (by omega) ?_ | exact is_of (by assumption) | refine gs_is ?_)) rfl ?_
            refine r_iconst (v := 0) 84 dX7_set_83 rfl (by decide) ?_
            refine r_iload_n 85 dX7_set_84 rfl rfl ?_
            refine r_iadd 86 dX7_set_85 rfl ?_
            refine r_iload_n 87 dX7_set_86 rfl rfl ?_
            refine r_iast 88 dX7_set_87 rfl (j) (by repeat (first | assumption | refine gs_eq ?_ | refine gs_ne (by omega) ?_ | exact is_of (by assumption) | refine gs_is ?_)) (Int32.zero_add _) (by omega) (by decide) ?_
            have ho1' := gs_ne (h := 44) (c := aI 431 (upd z j p)) (by decide) ho1
            have hfu : okF (upd f j p) := by rw [← plF_nI hj]; exact okF_pl hf hpk
            refine r_aload_n 89 dX7_set_88 rfl rfl rfl ?_
            refine r_callV0 92 dX7_set_89 rfl (tX7_beginHere ho1' (by repeat (first | assumption | refine gs_eq ?_ | refine gs_ne (by omega) ?_ | exact is_of (by assumption) | refine gs_is ?_)) (hA.sB (x := p) hj) (hW1.s44 (Fr.st rfl)) hfu hmv) l_X7_140 mX7_beginHere rfl (by repeat (first | assumption | refine gs_eq ?_ | refine gs_ne (by omega) ?_ | exact is_of (by assumption) | refine gs_is ?_)) rfl (by decide) (Nat.le_of_ble_eq_true rfl) (by decide) (qN fun w3 jb => ?_)
            obtain ⟨j1, y3, V3, jz3, jA3, jW3⟩ := jb
            rw [← plF_nI hj] at jA3
            refine r_iload_n 93 dX7_set_92 rfl rfl ?_
            refine r_iret dX7_set_93 rfl (by decide) (by decide) ?_
            rw [if_pos (ne_f q4), if_neg (by first | exact (fun z => z.1 q12) | exact (fun z => absurd (ne_f q21) (by rw [z.2]; decide))), if_neg (by rw [ho_t]; decide)]
            exact ⟨by rw [pAt_nI hj], Fr.tr (Fr.tr hF1.mR (Fr.st (by unfold mS; decide))) j1.mZ, (hk1.z (Fr.st (Or.inl rfl))).z j1, ⟨_, jz3, jA3, Nat.le_of_ble_eq_true rfl⟩, V3, jW3⟩
          · refine r_bipush (v := (-4)) 74 dX7_set_72 rfl (by decide) ?_
            refine r_iret dX7_set_74 rfl (by decide) (by decide) ?_
            rw [if_pos (ne_f q4), if_neg (by first | exact (fun z => absurd (ne_f q21) (by rw [z.2]; decide)) | exact absurd q12 q39)]
            first
            | (exfalso
               rw [show (1 : Int32) = nI 1 from rfl] at q69
               have h1 : (nI (pcK f (2 * m) 48 + pcK f (2 * m + 1) 48) - nI 1).toInt = 16 := by rw [q69]; rfl
               rw [pk_sub_toInt (by omega) (by decide)] at h1
               have q58' : sdO (f j) = sdO p := q58
               omega)
            | (have ho_t : otm n p (pAt f (nI j)) = true := by
                 unfold otm
                 rw [if_neg (fun z => z.elim q39 (fun y => q58 (by rw [pAt_nI hj] at y; exact y.symm))), em, hmc.1, hmc.2, nI_add]
                 rw [Int32.sub_zero] at q69
                 exact decide_eq_true (by rw [q69]; decide)
               rw [if_pos ho_t]
               exact ⟨rfl, rfl⟩)
        · refine r_iconst (v := 1) 62 dX7_set_61 rfl (by decide) ?_
          refine r_goto 66 dX7_set_62 (by decide) ?_
          refine r_isub 67 dX7_set_66 rfl ?_
          refine r_bipush (v := nI 16) 69 dX7_set_67 rfl (by decide) ?_
          refine r_icmp_ne 75 72 dX7_set_69 (by decide) rfl (fun q69 => ?_) (fun q69 => ?_)
          · have hpk : okP p := by first | exact Or.inl q39 | exact hpk
            have ho_t : otm n p (pAt f (nI j)) = false := by
              unfold otm
              first
              | rw [if_pos (Or.inl q39)]
              | rw [if_pos (Or.inr (by rw [pAt_nI hj]; exact q58.symm))]
              | (rw [if_neg (fun z => z.elim q39 (fun y => q58 (by rw [pAt_nI hj] at y; exact y.symm))), em, hmc.1, hmc.2, nI_add]
                 rw [Int32.sub_zero] at q69
                 refine decide_eq_false (fun z => q69 ?_)
                 have h1 := (nI_leI (a := 16) (b := pcK f (2 * m) 48 + pcK f (2 * m + 1) 48) (by decide) (by omega)).mp z
                 rw [show pcK f (2 * m) 48 + pcK f (2 * m + 1) 48 = 16 by omega])
            refine r_aload_n 76 dX7_set_75 rfl rfl rfl ?_
            refine r_callV0 79 dX7_set_76 rfl (tX7_record hk hz hG) l_X7_76 mX7_record rfl (by repeat (first | assumption | refine gs_eq ?_ | refine gs_ne (by omega) ?_ | exact is_of (by assumption) | refine gs_is ?_)) rfl (by decide) (Nat.le_of_ble_eq_true rfl) (by decide) (qN fun w1 h1 => ?_)
            obtain ⟨hF1, hk1⟩ := h1
            have hz1 := (hF1.2 44 (by decide)).trans hz
            obtain ⟨rm1, sp1, wr1, pa1, sl1, sv1, rd1, ho1, -⟩ := id hk1
            have hW1 := hW.fr hF1 (fun q a b => by unfold wS at a; omega)
            refine r_aload_n 80 dX7_set_79 rfl rfl rfl ?_
            refine r_getf 83 dX7_set_80 rfl f_X7_7.r (by repeat (first | assumption | refine gs_eq ?_ | refine gs_ne (by omega) ?_ | exact is_of (by assumption) | refine gs_is ?_)) rfl ?_
            refine r_iconst (v := 0) 84 dX7_set_83 rfl (by decide) ?_
            refine r_iload_n 85 dX7_set_84 rfl rfl ?_
            refine r_iadd 86 dX7_set_85 rfl ?_
            refine r_iload_n 87 dX7_set_86 rfl rfl ?_
            refine r_iast 88 dX7_set_87 rfl (j) (by repeat (first | assumption | refine gs_eq ?_ | refine gs_ne (by omega) ?_ | exact is_of (by assumption) | refine gs_is ?_)) (Int32.zero_add _) (by omega) (by decide) ?_
            have ho1' := gs_ne (h := 44) (c := aI 431 (upd z j p)) (by decide) ho1
            have hfu : okF (upd f j p) := by rw [← plF_nI hj]; exact okF_pl hf hpk
            refine r_aload_n 89 dX7_set_88 rfl rfl rfl ?_
            refine r_callV0 92 dX7_set_89 rfl (tX7_beginHere ho1' (by repeat (first | assumption | refine gs_eq ?_ | refine gs_ne (by omega) ?_ | exact is_of (by assumption) | refine gs_is ?_)) (hA.sB (x := p) hj) (hW1.s44 (Fr.st rfl)) hfu hmv) l_X7_140 mX7_beginHere rfl (by repeat (first | assumption | refine gs_eq ?_ | refine gs_ne (by omega) ?_ | exact is_of (by assumption) | refine gs_is ?_)) rfl (by decide) (Nat.le_of_ble_eq_true rfl) (by decide) (qN fun w3 jb => ?_)
            obtain ⟨j1, y3, V3, jz3, jA3, jW3⟩ := jb
            rw [← plF_nI hj] at jA3
            refine r_iload_n 93 dX7_set_92 rfl rfl ?_
            refine r_iret dX7_set_93 rfl (by decide) (by decide) ?_
            rw [if_pos (ne_f q4), if_neg (by first | exact (fun z => z.1 q12) | exact (fun z => absurd (ne_f q21) (by rw [z.2]; decide))), if_neg (by rw [ho_t]; decide)]
            exact ⟨by rw [pAt_nI hj], Fr.tr (Fr.tr hF1.mR (Fr.st (by unfold mS; decide))) j1.mZ, (hk1.z (Fr.st (Or.inl rfl))).z j1, ⟨_, jz3, jA3, Nat.le_of_ble_eq_true rfl⟩, V3, jW3⟩
          · refine r_bipush (v := (-4)) 74 dX7_set_72 rfl (by decide) ?_
            refine r_iret dX7_set_74 rfl (by decide) (by decide) ?_
            rw [if_pos (ne_f q4), if_neg (by first | exact (fun z => absurd (ne_f q21) (by rw [z.2]; decide)) | exact absurd q12 q39)]
            first
            | (exfalso
               rw [show (1 : Int32) = nI 1 from rfl] at q69
               have h1 : (nI (pcK f (2 * m) 48 + pcK f (2 * m + 1) 48) - nI 1).toInt = 16 := by rw [q69]; rfl
               rw [pk_sub_toInt (by omega) (by decide)] at h1
               have q58' : sdO (f j) = sdO p := q58
               omega)
            | (have ho_t : otm n p (pAt f (nI j)) = true := by
                 unfold otm
                 rw [if_neg (fun z => z.elim q39 (fun y => q58 (by rw [pAt_nI hj] at y; exact y.symm))), em, hmc.1, hmc.2, nI_add]
                 rw [Int32.sub_zero] at q69
                 exact decide_eq_true (by rw [q69]; decide)
               rw [if_pos ho_t]
               exact ⟨rfl, rfl⟩)
    · refine r_iload_n 16 dX7_set_15 rfl rfl ?_
      refine r_iconst (v := 0) 17 dX7_set_16 rfl (by decide) ?_
      refine r_iconst (v := 3) 18 dX7_set_17 rfl (by decide) ?_
      refine r_callS0 21 dX7_set_18 rfl (tX7_in) l_X7_61 mX7_in rfl (by decide) (Nat.le_of_ble_eq_true rfl) (by decide) (qI ?_)
      refine r_if_ne 27 24 dX7_set_21 (by decide) rfl (fun q21 => ?_) (fun q21 => ?_)
      · obtain ⟨j, hj47, rfl⟩ := inI_ix (n := 47) (by decide) (ne_f q4)
        have hj : j < 48 := by omega
        refine r_aload_n 28 dX7_set_27 rfl rfl rfl ?_
        refine r_getf 31 dX7_set_28 rfl f_X7_7.r (by repeat (first | assumption | refine gs_eq ?_ | refine gs_ne (by omega) ?_ | exact is_of (by assumption) | refine gs_is ?_)) rfl ?_
        refine r_iconst (v := 0) 32 dX7_set_31 rfl (by decide) ?_
        refine r_iload_n 33 dX7_set_32 rfl rfl ?_
        refine r_iadd 34 dX7_set_33 rfl ?_
        refine r_iald 35 dX7_set_34 rfl (j) (by repeat (first | assumption | refine gs_eq ?_ | refine gs_ne (by omega) ?_ | exact is_of (by assumption) | refine gs_is ?_)) (Int32.zero_add _) (by omega) (by decide) ?_
        rw [hA.1 j hj]
        refine r_istore_n (ls1 := [_, _, _, _]) 36 dX7_set_35 rfl (by decide) rfl rfl ?_
        refine r_iload_n 37 dX7_set_36 rfl rfl ?_
        refine r_bipush (v := (-6)) 39 dX7_set_37 rfl (by decide) ?_
        refine r_icmp_eq 75 42 dX7_set_39 (by decide) rfl (fun q39 => ?_) (fun q39 => ?_)
        · have hpk : okP p := by first | exact Or.inl q39 | exact hpk
          have ho_t : otm n p (pAt f (nI j)) = false := by
            unfold otm
            first
            | rw [if_pos (Or.inl q39)]
            | rw [if_pos (Or.inr (by rw [pAt_nI hj]; exact q58.symm))]
            | (rw [if_neg (fun z => z.elim q39 (fun y => q58 (by rw [pAt_nI hj] at y; exact y.symm))), em, hmc.1, hmc.2, nI_add]
               rw [Int32.sub_zero] at q69
               refine decide_eq_false (fun z => q69 ?_)
               have h1 := (nI_leI (a := 16) (b := pcK f (2 * m) 48 + pcK f (2 * m + 1) 48) (by decide) (by omega)).mp z
               rw [show pcK f (2 * m) 48 + pcK f (2 * m + 1) 48 = 16 by omega])
          refine r_aload_n 76 dX7_set_75 rfl rfl rfl ?_
          refine r_callV0 79 dX7_set_76 rfl (tX7_record hk hz hG) l_X7_76 mX7_record rfl (by repeat (first | assumption | refine gs_eq ?_ | refine gs_ne (by omega) ?_ | exact is_of (by assumption) | refine gs_is ?_)) rfl (by decide) (Nat.le_of_ble_eq_true rfl) (by decide) (qN fun w1 h1 => ?_)
          obtain ⟨hF1, hk1⟩ := h1
          have hz1 := (hF1.2 44 (by decide)).trans hz
          obtain ⟨rm1, sp1, wr1, pa1, sl1, sv1, rd1, ho1, -⟩ := id hk1
          have hW1 := hW.fr hF1 (fun q a b => by unfold wS at a; omega)
          refine r_aload_n 80 dX7_set_79 rfl rfl rfl ?_
          refine r_getf 83 dX7_set_80 rfl f_X7_7.r (by repeat (first | assumption | refine gs_eq ?_ | refine gs_ne (by omega) ?_ | exact is_of (by assumption) | refine gs_is ?_)) rfl ?_
          refine r_iconst (v := 0) 84 dX7_set_83 rfl (by decide) ?_
          refine r_iload_n 85 dX7_set_84 rfl rfl ?_
          refine r_iadd 86 dX7_set_85 rfl ?_
          refine r_iload_n 87 dX7_set_86 rfl rfl ?_
          refine r_iast 88 dX7_set_87 rfl (j) (by repeat (first | assumption | refine gs_eq ?_ | refine gs_ne (by omega) ?_ | exact is_of (by assumption) | refine gs_is ?_)) (Int32.zero_add _) (by omega) (by decide) ?_
          have ho1' := gs_ne (h := 44) (c := aI 431 (upd z j p)) (by decide) ho1
          have hfu : okF (upd f j p) := by rw [← plF_nI hj]; exact okF_pl hf hpk
          refine r_aload_n 89 dX7_set_88 rfl rfl rfl ?_
          refine r_callV0 92 dX7_set_89 rfl (tX7_beginHere ho1' (by repeat (first | assumption | refine gs_eq ?_ | refine gs_ne (by omega) ?_ | exact is_of (by assumption) | refine gs_is ?_)) (hA.sB (x := p) hj) (hW1.s44 (Fr.st rfl)) hfu hmv) l_X7_140 mX7_beginHere rfl (by repeat (first | assumption | refine gs_eq ?_ | refine gs_ne (by omega) ?_ | exact is_of (by assumption) | refine gs_is ?_)) rfl (by decide) (Nat.le_of_ble_eq_true rfl) (by decide) (qN fun w3 jb => ?_)
          obtain ⟨j1, y3, V3, jz3, jA3, jW3⟩ := jb
          rw [← plF_nI hj] at jA3
          refine r_iload_n 93 dX7_set_92 rfl rfl ?_
          refine r_iret dX7_set_93 rfl (by decide) (by decide) ?_
          rw [if_pos (ne_f q4), if_neg (by first | exact (fun z => z.1 q12) | exact (fun z => absurd (ne_f q21) (by rw [z.2]; decide))), if_neg (by rw [ho_t]; decide)]
          exact ⟨by rw [pAt_nI hj], Fr.tr (Fr.tr hF1.mR (Fr.st (by unfold mS; decide))) j1.mZ, (hk1.z (Fr.st (Or.inl rfl))).z j1, ⟨_, jz3, jA3, Nat.le_of_ble_eq_true rfl⟩, V3, jW3⟩
        · refine r_aload_n 43 dX7_set_42 rfl rfl rfl ?_
          refine r_iload_n 44 dX7_set_43 rfl rfl ?_
          have hpk : okP p := by first | exact inI_p (ne_f q21) | exact absurd q12 q39
          obtain ⟨m, hm, em, -⟩ := side_ix (sdO_01 hpk q39)
          have hsm := hsL m hm
          have hmc := men_C hnC hm
          refine r_callS0 47 dX7_set_44 rfl (tX7_sd hpk) l_X7_87 mX7_sideOf rfl (by decide) (Nat.le_of_ble_eq_true rfl) (by decide) (qI ?_)
          rw [em]
          refine r_callV0 50 dX7_set_47 rfl (tX7_all (sd := m) ho hz hA.1) l_X7_146 mX7_all rfl (by repeat (first | assumption | refine gs_eq ?_ | refine gs_ne (by omega) ?_ | exact is_of (by assumption) | refine gs_is ?_)) rfl (by decide) (Nat.le_of_ble_eq_true rfl) (by decide) (qI ?_)
          refine r_iload_n 51 dX7_set_50 rfl rfl ?_
          refine r_callS0 54 dX7_set_51 rfl (tX7_sd (hf j hj)) l_X7_87 mX7_sideOf rfl (by decide) (Nat.le_of_ble_eq_true rfl) (by decide) (qI ?_)
          refine r_iload_n 55 dX7_set_54 rfl rfl ?_
          refine r_callS0 58 dX7_set_55 rfl (tX7_sd hpk) l_X7_87 mX7_sideOf rfl (by decide) (Nat.le_of_ble_eq_true rfl) (by decide) (qI ?_)
          refine r_icmp_ne 65 61 dX7_set_58 (by decide) rfl (fun q58 => ?_) (fun q58 => ?_)
          · refine r_iconst (v := 0) 66 dX7_set_65 rfl (by decide) ?_
            refine r_isub 67 dX7_set_66 rfl ?_
            refine r_bipush (v := nI 16) 69 dX7_set_67 rfl (by decide) ?_
            refine r_icmp_ne 75 72 dX7_set_69 (by decide) rfl (fun q69 => ?_) (fun q69 => ?_)
            · have hpk : okP p := by first | exact Or.inl q39 | exact hpk
              have ho_t : otm n p (pAt f (nI j)) = false := by
                unfold otm
                first
                | rw [if_pos (Or.inl q39)]
                | rw [if_pos (Or.inr (by rw [pAt_nI hj]; exact q58.symm))]
                | (rw [if_neg (fun z => z.elim q39 (fun y => q58 (by rw [pAt_nI hj] at y; exact y.symm))), em, hmc.1, hmc.2, nI_add]
                   rw [Int32.sub_zero] at q69
                   refine decide_eq_false (fun z => q69 ?_)
                   have h1 := (nI_leI (a := 16) (b := pcK f (2 * m) 48 + pcK f (2 * m + 1) 48) (by decide) (by omega)).mp z
                   rw [show pcK f (2 * m) 48 + pcK f (2 * m + 1) 48 = 16 by omega])
              refine r_aload_n 76 dX7_set_75 rfl rfl rfl ?_
              refine r_callV0 79 dX7_set_76 rfl (tX7_record hk hz hG) l_X7_76 mX7_record rfl (by repeat (first | assumption | refine gs_eq ?_ | refine gs_ne (by omega) ?_ | exact is_of (by assumption) | refine gs_is ?_)) rfl (by decide) (Nat.le_of_ble_eq_true rfl) (by decide) (qN fun w1 h1 => ?_)
              obtain ⟨hF1, hk1⟩ := h1
              have hz1 := (hF1.2 44 (by decide)).trans hz
              obtain ⟨rm1, sp1, wr1, pa1, sl1, sv1, rd1, ho1, -⟩ := id hk1
              have hW1 := hW.fr hF1 (fun q a b => by unfold wS at a; omega)
              refine r_aload_n 80 dX7_set_79 rfl rfl rfl ?_
              refine r_getf 83 dX7_set_80 rfl f_X7_7.r (by repeat (first | assumption | refine gs_eq ?_ | refine gs_ne (by omega) ?_ | exact is_of (by assumption) | refine gs_is ?_)) rfl ?_
              refine r_iconst (v := 0) 84 dX7_set_83 rfl (by decide) ?_
              refine r_iload_n 85 dX7_set_84 rfl rfl ?_
              refine r_iadd 86 dX7_set_85 rfl ?_
              refine r_iload_n 87 dX7_set_86 rfl rfl ?_
              refine r_iast 88 dX7_set_87 rfl (j) (by repeat (first | assumption | refine gs_eq ?_ | refine gs_ne (by omega) ?_ | exact is_of (by assumption) | refine gs_is ?_)) (Int32.zero_add _) (by omega) (by decide) ?_
              have ho1' := gs_ne (h := 44) (c := aI 431 (upd z j p)) (by decide) ho1
              have hfu : okF (upd f j p) := by rw [← plF_nI hj]; exact okF_pl hf hpk
              refine r_aload_n 89 dX7_set_88 rfl rfl rfl ?_
              refine r_callV0 92 dX7_set_89 rfl (tX7_beginHere ho1' (by repeat (first | assumption | refine gs_eq ?_ | refine gs_ne (by omega) ?_ | exact is_of (by assumption) | refine gs_is ?_)) (hA.sB (x := p) hj) (hW1.s44 (Fr.st rfl)) hfu hmv) l_X7_140 mX7_beginHere rfl (by repeat (first | assumption | refine gs_eq ?_ | refine gs_ne (by omega) ?_ | exact is_of (by assumption) | refine gs_is ?_)) rfl (by decide) (Nat.le_of_ble_eq_true rfl) (by decide) (qN fun w3 jb => ?_)
              obtain ⟨j1, y3, V3, jz3, jA3, jW3⟩ := jb
              rw [← plF_nI hj] at jA3
              refine r_iload_n 93 dX7_set_92 rfl rfl ?_
              refine r_iret dX7_set_93 rfl (by decide) (by decide) ?_
              rw [if_pos (ne_f q4), if_neg (by first | exact (fun z => z.1 q12) | exact (fun z => absurd (ne_f q21) (by rw [z.2]; decide))), if_neg (by rw [ho_t]; decide)]
              exact ⟨by rw [pAt_nI hj], Fr.tr (Fr.tr hF1.mR (Fr.st (by unfold mS; decide))) j1.mZ, (hk1.z (Fr.st (Or.inl rfl))).z j1, ⟨_, jz3, jA3, Nat.le_of_ble_eq_true rfl⟩, V3, jW3⟩
            · refine r_bipush (v := (-4)) 74 dX7_set_72 rfl (by decide) ?_
              refine r_iret dX7_set_74 rfl (by decide) (by decide) ?_
              rw [if_pos (ne_f q4), if_neg (by first | exact (fun z => absurd (ne_f q21) (by rw [z.2]; decide)) | exact absurd q12 q39)]
              first
              | (exfalso
                 rw [show (1 : Int32) = nI 1 from rfl] at q69
                 have h1 : (nI (pcK f (2 * m) 48 + pcK f (2 * m + 1) 48) - nI 1).toInt = 16 := by rw [q69]; rfl
                 rw [pk_sub_toInt (by omega) (by decide)] at h1
                 have q58' : sdO (f j) = sdO p := q58
                 omega)
              | (have ho_t : otm n p (pAt f (nI j)) = true := by
                   unfold otm
                   rw [if_neg (fun z => z.elim q39 (fun y => q58 (by rw [pAt_nI hj] at y; exact y.symm))), em, hmc.1, hmc.2, nI_add]
                   rw [Int32.sub_zero] at q69
                   exact decide_eq_true (by rw [q69]; decide)
                 rw [if_pos ho_t]
                 exact ⟨rfl, rfl⟩)
          · refine r_iconst (v := 1) 62 dX7_set_61 rfl (by decide) ?_
            refine r_goto 66 dX7_set_62 (by decide) ?_
            refine r_isub 67 dX7_set_66 rfl ?_
            refine r_bipush (v := nI 16) 69 dX7_set_67 rfl (by decide) ?_
            refine r_icmp_ne 75 72 dX7_set_69 (by decide) rfl (fun q69 => ?_) (fun q69 => ?_)
            · have hpk : okP p := by first | exact Or.inl q39 | exact hpk
              have ho_t : otm n p (pAt f (nI j)) = false := by
                unfold otm
                first
                | rw [if_pos (Or.inl q39)]
                | rw [if_pos (Or.inr (by rw [pAt_nI hj]; exact q58.symm))]
                | (rw [if_neg (fun z => z.elim q39 (fun y => q58 (by rw [pAt_nI hj] at y; exact y.symm))), em, hmc.1, hmc.2, nI_add]
                   rw [Int32.sub_zero] at q69
                   refine decide_eq_false (fun z => q69 ?_)
                   have h1 := (nI_leI (a := 16) (b := pcK f (2 * m) 48 + pcK f (2 * m + 1) 48) (by decide) (by omega)).mp z
                   rw [show pcK f (2 * m) 48 + pcK f (2 * m + 1) 48 = 16 by omega])
              refine r_aload_n 76 dX7_set_75 rfl rfl rfl ?_
              refine r_callV0 79 dX7_set_76 rfl (tX7_record hk hz hG) l_X7_76 mX7_record rfl (by repeat (first | assumption | refine gs_eq ?_ | refine gs_ne (by omega) ?_ | exact is_of (by assumption) | refine gs_is ?_)) rfl (by decide) (Nat.le_of_ble_eq_true rfl) (by decide) (qN fun w1 h1 => ?_)
              obtain ⟨hF1, hk1⟩ := h1
              have hz1 := (hF1.2 44 (by decide)).trans hz
              obtain ⟨rm1, sp1, wr1, pa1, sl1, sv1, rd1, ho1, -⟩ := id hk1
              have hW1 := hW.fr hF1 (fun q a b => by unfold wS at a; omega)
              refine r_aload_n 80 dX7_set_79 rfl rfl rfl ?_
              refine r_getf 83 dX7_set_80 rfl f_X7_7.r (by repeat (first | assumption | refine gs_eq ?_ | refine gs_ne (by omega) ?_ | exact is_of (by assumption) | refine gs_is ?_)) rfl ?_
              refine r_iconst (v := 0) 84 dX7_set_83 rfl (by decide) ?_
              refine r_iload_n 85 dX7_set_84 rfl rfl ?_
              refine r_iadd 86 dX7_set_85 rfl ?_
              refine r_iload_n 87 dX7_set_86 rfl rfl ?_
              refine r_iast 88 dX7_set_87 rfl (j) (by repeat (first | assumption | refine gs_eq ?_ | refine gs_ne (by omega) ?_ | exact is_of (by assumption) | refine gs_is ?_)) (Int32.zero_add _) (by omega) (by decide) ?_
              have ho1' := gs_ne (h := 44) (c := aI 431 (upd z j p)) (by decide) ho1
              have hfu : okF (upd f j p) := by rw [← plF_nI hj]; exact okF_pl hf hpk
              refine r_aload_n 89 dX7_set_88 rfl rfl rfl ?_
              refine r_callV0 92 dX7_set_89 rfl (tX7_beginHere ho1' (by repeat (first | assumption | refine gs_eq ?_ | refine gs_ne (by omega) ?_ | exact is_of (by assumption) | refine gs_is ?_)) (hA.sB (x := p) hj) (hW1.s44 (Fr.st rfl)) hfu hmv) l_X7_140 mX7_beginHere rfl (by repeat (first | assumption | refine gs_eq ?_ | refine gs_ne (by omega) ?_ | exact is_of (by assumption) | refine gs_is ?_)) rfl (by decide) (Nat.le_of_ble_eq_true rfl) (by decide) (qN fun w3 jb => ?_)
              obtain ⟨j1, y3, V3, jz3, jA3, jW3⟩ := jb
              rw [← plF_nI hj] at jA3
              refine r_iload_n 93 dX7_set_92 rfl rfl ?_
              refine r_iret dX7_set_93 rfl (by decide) (by decide) ?_
              rw [if_pos (ne_f q4), if_neg (by first | exact (fun z => z.1 q12) | exact (fun z => absurd (ne_f q21) (by rw [z.2]; decide))), if_neg (by rw [ho_t]; decide)]
              exact ⟨by rw [pAt_nI hj], Fr.tr (Fr.tr hF1.mR (Fr.st (by unfold mS; decide))) j1.mZ, (hk1.z (Fr.st (Or.inl rfl))).z j1, ⟨_, jz3, jA3, Nat.le_of_ble_eq_true rfl⟩, V3, jW3⟩
            · refine r_bipush (v := (-4)) 74 dX7_set_72 rfl (by decide) ?_
              refine r_iret dX7_set_74 rfl (by decide) (by decide) ?_
              rw [if_pos (ne_f q4), if_neg (by first | exact (fun z => absurd (ne_f q21) (by rw [z.2]; decide)) | exact absurd q12 q39)]
              first
              | (exfalso
                 rw [show (1 : Int32) = nI 1 from rfl] at q69
                 have h1 : (nI (pcK f (2 * m) 48 + pcK f (2 * m + 1) 48) - nI 1).toInt = 16 := by rw [q69]; rfl
                 rw [pk_sub_toInt (by omega) (by decide)] at h1
                 have q58' : sdO (f j) = sdO p := q58
                 omega)
              | (have ho_t : otm n p (pAt f (nI j)) = true := by
                   unfold otm
                   rw [if_neg (fun z => z.elim q39 (fun y => q58 (by rw [pAt_nI hj] at y; exact y.symm))), em, hmc.1, hmc.2, nI_add]
                   rw [Int32.sub_zero] at q69
                   exact decide_eq_true (by rw [q69]; decide)
                 rw [if_pos ho_t]
                 exact ⟨rfl, rfl⟩)
      · refine r_bipush (v := (-2)) 26 dX7_set_24 rfl (by decide) ?_
        refine r_iret dX7_set_26 rfl (by decide) (by decide) ?_
        rw [if_pos (ne_f q4), if_pos ⟨q12, bI_0.mp q21⟩]
        exact ⟨rfl, rfl⟩
  · refine r_iconst (v := (-1)) 8 dX7_set_7 rfl (by decide) ?_
    refine r_iret dX7_set_8 rfl (by decide) (by decide) ?_
    rw [if_neg (eq_f q4)]
    exact ⟨rfl, rfl⟩

set_option maxRecDepth 100000 in
theorem tX7_turn {Γ : CT} {w : PW} {f n : Nat → Int32} {mv jp : Int32} {cl lo : Nat → Int32} {ps : List T3} {cs mk qt oc : Int32} {P : List P3} {HM : List MG} {SM : Nat → Option MG} {pf : Nat → Int32} {pn : Nat} {s : Int32} (hr : isMD w ((f, n, mv, jp, cl, lo, ps, cs, mk, qt, oc), P) HM SM pf pn) (hI : GI ((f, n, mv, jp, cl, lo, ps, cs, mk, qt, oc), P)) : Cl Γ yX7_turn XX7_turn 9 0 0 [.ref 43, .int s] w (if s = 0 ∨ s = 1 then rP mv (toMD w ((f, n, s, -6, cl, (fun _ => 0), [t3O f s (-6)], cs, 0, 0, judO f s [t3O f s (-6)] 0), [(f, s, -6)]) (keepM HM ((f, n, mv, jp, cl, lo, ps, cs, mk, qt, oc), P)) SM pf pn) else rI (-2) w) := by
  refine Cl.of (ls := [some (.ref 43), some (.int s), none]) rfl (by decide +kernel) (fun h => by cases h) (Nat.le_of_ble_eq_true rfl) rfl ?_
  obtain ⟨hk, ⟨z, hz, hG⟩, W, hW⟩ := id hr
  obtain ⟨rm, sp, wr, pa, sl, sv, rd, ho, hpa, hH6, hpH, hsl, hsv, hpS, hpd, hpn, hrd⟩ := id hk
  have hA : zA z f mv oc cs cl mk jp lo qt P := hG.1
  have hP61 := hG.2
  obtain ⟨hok, hf, hnC, hsL, hjj, hjp, hpP, hPo, hclp, hcsp, hoc0⟩ := id hI
  have hf : okF f := hf
  have hnC : nC f n := hnC
  have hsL : sdL f := hsL
  have hjj : jjO f mv jp := hjj
  have hmv : mv = 0 ∨ mv = 1 := hok.1
  have hpP : ps = P.map t3p := hpP
  have hPo : ∀ p ∈ P, okp3 p := hPo
  refine r_iload_n 1 dX7_turn_0 rfl rfl ?_
  refine r_iconst (v := 0) 2 dX7_turn_1 rfl (by decide) ?_
  refine r_iconst (v := 1) 3 dX7_turn_2 rfl (by decide) ?_
  refine r_callS0 6 dX7_turn_3 rfl (tX7_in) l_X7_61 mX7_in rfl (by decide) (Nat.le_of_ble_eq_true rfl) (by decide) (qI ?_)
  refine r_if_ne 12 9 dX7_turn_6 (by decide) rfl (fun q6 => ?_) (fun q6 => ?_)
  · refine r_aload_n 13 dX7_turn_12 rfl rfl rfl ?_
    refine r_callV0 16 dX7_turn_13 rfl (tX7_record hk hz hG) l_X7_76 mX7_record rfl (by repeat (first | assumption | refine gs_eq ?_ | refine gs_ne (by omega) ?_ | exact is_of (by assumption) | refine gs_is ?_)) rfl (by decide) (Nat.le_of_ble_eq_true rfl) (by decide) (qN fun w1 h1 => ?_)
    obtain ⟨hF1, hk1⟩ := h1
    have hz1 := (hF1.2 44 (by decide)).trans hz
    obtain ⟨rm1, sp1, wr1, pa1, sl1, sv1, rd1, ho1, -⟩ := id hk1
    have hW1 := hW.fr hF1 (fun q a b => by unfold wS at a; omega)
    refine r_aload_n 17 dX7_turn_16 rfl rfl rfl ?_
    refine r_getf 20 dX7_turn_17 rfl f_X7_7.r (by repeat (first | assumption | refine gs_eq ?_ | refine gs_ne (by omega) ?_ | exact is_of (by assumption) | refine gs_is ?_)) rfl ?_
    refine r_bipush (v := 48) 22 dX7_turn_20 rfl (by decide) ?_
    refine r_iald 23 dX7_turn_22 rfl (48) (by repeat (first | assumption | refine gs_eq ?_ | refine gs_ne (by omega) ?_ | exact is_of (by assumption) | refine gs_is ?_)) rfl (by decide) (by decide) ?_
    rw [hA.2.1]
    refine r_istore_n (ls1 := [_, _, _]) 24 dX7_turn_23 rfl (by decide) rfl rfl ?_
    refine r_aload_n 25 dX7_turn_24 rfl rfl rfl ?_
    refine r_getf 28 dX7_turn_25 rfl f_X7_7.r (by repeat (first | assumption | refine gs_eq ?_ | refine gs_ne (by omega) ?_ | exact is_of (by assumption) | refine gs_is ?_)) rfl ?_
    refine r_bipush (v := 48) 30 dX7_turn_28 rfl (by decide) ?_
    refine r_iload_n 31 dX7_turn_30 rfl rfl ?_
    refine r_iast 32 dX7_turn_31 rfl (48) (by repeat (first | assumption | refine gs_eq ?_ | refine gs_ne (by omega) ?_ | exact is_of (by assumption) | refine gs_is ?_)) rfl (by decide) (by decide) ?_
    have ho1' := gs_ne (h := 44) (c := aI 431 (upd z 48 s)) (by decide) ho1
    have hs01 : s = 0 ∨ s = 1 := of_decide_eq_true (inI_s ▸ ne_f q6)
    refine r_aload_n 33 dX7_turn_32 rfl rfl rfl ?_
    refine r_callV0 36 dX7_turn_33 rfl (tX7_beginHere ho1' (by repeat (first | assumption | refine gs_eq ?_ | refine gs_ne (by omega) ?_ | exact is_of (by assumption) | refine gs_is ?_)) (hA.s48 (x := s)) (hW1.s44 (Fr.st rfl)) hf hs01) l_X7_140 mX7_beginHere rfl (by repeat (first | assumption | refine gs_eq ?_ | refine gs_ne (by omega) ?_ | exact is_of (by assumption) | refine gs_is ?_)) rfl (by decide) (Nat.le_of_ble_eq_true rfl) (by decide) (qN fun w3 jb => ?_)
    obtain ⟨j1, y3, V3, jz3, jA3, jW3⟩ := jb
    refine r_iload_n 37 dX7_turn_36 rfl rfl ?_
    refine r_iret dX7_turn_37 rfl (by decide) (by decide) ?_
    rw [if_pos hs01]
    exact ⟨rfl, Fr.tr (Fr.tr hF1.mR (Fr.st (by unfold mS; decide))) j1.mZ, (hk1.z (Fr.st (Or.inl rfl))).z j1, ⟨_, jz3, jA3, Nat.le_of_ble_eq_true rfl⟩, V3, jW3⟩
  · refine r_bipush (v := (-2)) 11 dX7_turn_9 rfl (by decide) ?_
    refine r_iret dX7_turn_11 rfl (by decide) (by decide) ?_
    rw [if_neg (of_decide_eq_false (inI_s ▸ bI_0.mp q6))]
    exact ⟨rfl, rfl⟩

set_option maxRecDepth 100000 in
theorem tX7_giveUp {Γ : CT} {w : PW} {f n : Nat → Int32} {mv jp : Int32} {cl lo : Nat → Int32} {ps : List T3} {cs mk qt oc : Int32} {P : List P3} {HM : List MG} {SM : Nat → Option MG} {pf : Nat → Int32} {pn : Nat} (hr : isMD w ((f, n, mv, jp, cl, lo, ps, cs, mk, qt, oc), P) HM SM pf pn) (hI : GI ((f, n, mv, jp, cl, lo, ps, cs, mk, qt, oc), P)) : Cl Γ yX7_giveUp XX7_giveUp 9 0 0 [.ref 43] w (if oc = 0 then rP (wonO (1 - mv)) (toMD w ((f, n, mv, jp, cl, lo, ps, cs, mk, qt, wonO (1 - mv)), P) (keepM HM ((f, n, mv, jp, cl, lo, ps, cs, mk, qt, oc), P)) SM pf pn) else rI (-5) w) := by
  refine Cl.of (ls := [some (.ref 43)]) rfl (by decide +kernel) (fun h => by cases h) (Nat.le_of_ble_eq_true rfl) rfl ?_
  obtain ⟨hk, ⟨z, hz, hG⟩, W, hW⟩ := id hr
  obtain ⟨rm, sp, wr, pa, sl, sv, rd, ho, hpa, hH6, hpH, hsl, hsv, hpS, hpd, hpn, hrd⟩ := id hk
  have hA : zA z f mv oc cs cl mk jp lo qt P := hG.1
  have hP61 := hG.2
  obtain ⟨hok, hf, hnC, hsL, hjj, hjp, hpP, hPo, hclp, hcsp, hoc0⟩ := id hI
  have hf : okF f := hf
  have hnC : nC f n := hnC
  have hsL : sdL f := hsL
  have hjj : jjO f mv jp := hjj
  have hmv : mv = 0 ∨ mv = 1 := hok.1
  have hpP : ps = P.map t3p := hpP
  have hPo : ∀ p ∈ P, okp3 p := hPo
  refine r_aload_n 1 dX7_giveUp_0 rfl rfl rfl ?_
  refine r_getf 4 dX7_giveUp_1 rfl f_X7_7.r (by repeat (first | assumption | refine gs_eq ?_ | refine gs_ne (by omega) ?_ | exact is_of (by assumption) | refine gs_is ?_)) rfl ?_
  refine r_bipush (v := 49) 6 dX7_giveUp_4 rfl (by decide) ?_
  refine r_iald 7 dX7_giveUp_6 rfl (49) (by repeat (first | assumption | refine gs_eq ?_ | refine gs_ne (by omega) ?_ | exact is_of (by assumption) | refine gs_is ?_)) rfl (by decide) (by decide) ?_
  rw [hA.2.2.1]
  refine r_if_eq 13 10 dX7_giveUp_7 (by decide) rfl (fun q7 => ?_) (fun q7 => ?_)
  · refine r_aload_n 14 dX7_giveUp_13 rfl rfl rfl ?_
    refine r_callV0 17 dX7_giveUp_14 rfl (tX7_record hk hz hG) l_X7_76 mX7_record rfl (by repeat (first | assumption | refine gs_eq ?_ | refine gs_ne (by omega) ?_ | exact is_of (by assumption) | refine gs_is ?_)) rfl (by decide) (Nat.le_of_ble_eq_true rfl) (by decide) (qN fun w1 h1 => ?_)
    obtain ⟨hF1, hk1⟩ := h1
    have hz1 := (hF1.2 44 (by decide)).trans hz
    obtain ⟨rm1, sp1, wr1, pa1, sl1, sv1, rd1, ho1, -⟩ := id hk1
    have hW1 := hW.fr hF1 (fun q a b => by unfold wS at a; omega)
    refine r_aload_n 18 dX7_giveUp_17 rfl rfl rfl ?_
    refine r_getf 21 dX7_giveUp_18 rfl f_X7_7.r (by repeat (first | assumption | refine gs_eq ?_ | refine gs_ne (by omega) ?_ | exact is_of (by assumption) | refine gs_is ?_)) rfl ?_
    refine r_bipush (v := 49) 23 dX7_giveUp_21 rfl (by decide) ?_
    refine r_aload_n 24 dX7_giveUp_23 rfl rfl rfl ?_
    refine r_getf 27 dX7_giveUp_24 rfl f_X7_7.r (by repeat (first | assumption | refine gs_eq ?_ | refine gs_ne (by omega) ?_ | exact is_of (by assumption) | refine gs_is ?_)) rfl ?_
    refine r_bipush (v := 48) 29 dX7_giveUp_27 rfl (by decide) ?_
    refine r_iald 30 dX7_giveUp_29 rfl (48) (by repeat (first | assumption | refine gs_eq ?_ | refine gs_ne (by omega) ?_ | exact is_of (by assumption) | refine gs_is ?_)) rfl (by decide) (by decide) ?_
    rw [hA.2.1]
    refine r_if_ne 37 33 dX7_giveUp_30 (by decide) rfl (fun q30 => ?_) (fun q30 => ?_)
    · refine r_iconst (v := 1) 38 dX7_giveUp_37 rfl (by decide) ?_
      refine r_iast 39 dX7_giveUp_38 rfl (49) (by repeat (first | assumption | refine gs_eq ?_ | refine gs_ne (by omega) ?_ | exact is_of (by assumption) | refine gs_is ?_)) rfl (by decide) (by decide) ?_
      refine r_aload_n 40 dX7_giveUp_39 rfl rfl rfl ?_
      refine r_getf 43 dX7_giveUp_40 rfl f_X7_7.r (by repeat (first | assumption | refine gs_eq ?_ | refine gs_ne (by omega) ?_ | exact is_of (by assumption) | refine gs_is ?_)) rfl ?_
      refine r_bipush (v := 49) 45 dX7_giveUp_43 rfl (by decide) ?_
      refine r_iald 46 dX7_giveUp_45 rfl (49) (by repeat (first | assumption | refine gs_eq ?_ | refine gs_ne (by omega) ?_ | exact is_of (by assumption) | refine gs_is ?_)) rfl (by decide) (by decide) ?_
      rw [pk_us]
      refine r_iret dX7_giveUp_46 rfl (by decide) (by decide) ?_
      rw [if_pos q7]
      first
      | have ew : wonO (1 - mv) = 2 := by rw [q30]; rfl
      | have ew : wonO (1 - mv) = 1 := by rw [hmv.resolve_left q30]; rfl
      rw [ew]
      exact ⟨rfl, Fr.tr hF1.mR (Fr.st (by unfold mS; decide)), hk1.z (Fr.st (Or.inl rfl)), ⟨_, (by repeat (first | assumption | refine gs_eq ?_ | refine gs_ne (by omega) ?_ | exact is_of (by assumption) | refine gs_is ?_)), hA.s49, hP61⟩, W, hW1.s44 (Fr.st rfl)⟩
    · refine r_iconst (v := 2) 34 dX7_giveUp_33 rfl (by decide) ?_
      refine r_goto 38 dX7_giveUp_34 (by decide) ?_
      refine r_iast 39 dX7_giveUp_38 rfl (49) (by repeat (first | assumption | refine gs_eq ?_ | refine gs_ne (by omega) ?_ | exact is_of (by assumption) | refine gs_is ?_)) rfl (by decide) (by decide) ?_
      refine r_aload_n 40 dX7_giveUp_39 rfl rfl rfl ?_
      refine r_getf 43 dX7_giveUp_40 rfl f_X7_7.r (by repeat (first | assumption | refine gs_eq ?_ | refine gs_ne (by omega) ?_ | exact is_of (by assumption) | refine gs_is ?_)) rfl ?_
      refine r_bipush (v := 49) 45 dX7_giveUp_43 rfl (by decide) ?_
      refine r_iald 46 dX7_giveUp_45 rfl (49) (by repeat (first | assumption | refine gs_eq ?_ | refine gs_ne (by omega) ?_ | exact is_of (by assumption) | refine gs_is ?_)) rfl (by decide) (by decide) ?_
      rw [pk_us]
      refine r_iret dX7_giveUp_46 rfl (by decide) (by decide) ?_
      rw [if_pos q7]
      first
      | have ew : wonO (1 - mv) = 2 := by rw [q30]; rfl
      | have ew : wonO (1 - mv) = 1 := by rw [hmv.resolve_left q30]; rfl
      rw [ew]
      exact ⟨rfl, Fr.tr hF1.mR (Fr.st (by unfold mS; decide)), hk1.z (Fr.st (Or.inl rfl)), ⟨_, (by repeat (first | assumption | refine gs_eq ?_ | refine gs_ne (by omega) ?_ | exact is_of (by assumption) | refine gs_is ?_)), hA.s49, hP61⟩, W, hW1.s44 (Fr.st rfl)⟩
  · refine r_bipush (v := (-5)) 12 dX7_giveUp_10 rfl (by decide) ?_
    refine r_iret dX7_giveUp_12 rfl (by decide) (by decide) ?_
    rw [if_neg q7]
    exact ⟨rfl, rfl⟩

