/-! ===== the model: hops, undo, slots ===== -/
theorem hopM_G {y : Nat → Int32} {f n : Nat → Int32} {m : Nat} {jp : Int32} {cl lo : Nat → Int32} {ps : List T3} {cs mk qt oc : Int32} {P : List P3} {q : HP} {sec : Int32} (hs : sec ≤ cl m) (hpP : ps = P.map t3p) (h60 : (psM ((f, n, nI m, jp, cl, lo, ps, cs, mk, qt, oc), P) m q).length ≤ 61) (h : zA y (mkF f (nI m) q) (mkM f (nI m) q) (judO (mkF f (nI m) q) (mkM f (nI m) q) ((psM ((f, n, nI m, jp, cl, lo, ps, cs, mk, qt, oc), P) m q).map t3p) (qtO f qt q)) cs (upd cl m (cl m - sec)) (mk + 1) (mkJ f (nI m) q) (loO lo m q) (qtO f qt q) (psM ((f, n, nI m, jp, cl, lo, ps, cs, mk, qt, oc), P) m q)) : zG y (hopM ((f, n, nI m, jp, cl, lo, ps, cs, mk, qt, oc), P) m q sec) := by
  have e1 : hopM ((f, n, nI m, jp, cl, lo, ps, cs, mk, qt, oc), P) m q sec = ((mkF f (nI m) q, mkN f n (nI m) q, mkM f (nI m) q, mkJ f (nI m) q, upd cl m (cl m - sec), loO lo m q, psO f (nI m) ps q, cs, mk + 1, qtO f qt q, judO (mkF f (nI m) q) (mkM f (nI m) q) (psO f (nI m) ps q) (qtO f qt q)), psM ((f, n, nI m, jp, cl, lo, ps, cs, mk, qt, oc), P) m q) := by
    unfold hopM hopG
    rw [if_pos (show sec ≤ cl m from hs), if_pos (show sec ≤ cl m from hs)]
  rw [e1]
  refine ⟨?_, h60⟩
  have e2 : psO f (nI m) ps q = (psM ((f, n, nI m, jp, cl, lo, ps, cs, mk, qt, oc), P) m q).map t3p := psM_map (X := ((f, n, nI m, jp, cl, lo, ps, cs, mk, qt, oc), P)) hpP
  show zA y _ _ (judO _ _ (psO f (nI m) ps q) _) _ _ _ _ _ _ _
  rw [e2]
  exact h
theorem hopM_oc {f n : Nat → Int32} {m : Nat} {jp : Int32} {cl lo : Nat → Int32} {ps : List T3} {cs mk qt oc : Int32} {P : List P3} {q : HP} {sec : Int32} (hs : sec ≤ cl m) (hpP : ps = P.map t3p) : gsO (hopG (f, n, nI m, jp, cl, lo, ps, cs, mk, qt, oc) m q sec) = judO (mkF f (nI m) q) (mkM f (nI m) q) ((psM ((f, n, nI m, jp, cl, lo, ps, cs, mk, qt, oc), P) m q).map t3p) (qtO f qt q) := by
  have e2 : psO f (nI m) ps q = (psM ((f, n, nI m, jp, cl, lo, ps, cs, mk, qt, oc), P) m q).map t3p := psM_map (X := ((f, n, nI m, jp, cl, lo, ps, cs, mk, qt, oc), P)) hpP
  rw [← e2]
  unfold hopG
  rw [if_pos (show sec ≤ cl m from hs)]
  rfl
theorem psM_len {X : MG} {m : Nat} {q : HP} (h : qtB X.1.1 q = true → X.2.length ≤ 60) : (psM X m q).length ≤ 61 := by
  unfold psM
  rw [List.length_append]
  split
  · next e => exact Nat.succ_le_succ (h e)
  · exact Nat.le_of_ble_eq_true rfl
set_option maxRecDepth 100000 in
theorem tX7_hop {Γ : CT} {w : PW} {f n : Nat → Int32} {m : Nat} {jp : Int32} {cl lo : Nat → Int32} {ps : List T3} {cs mk qt oc : Int32} {P : List P3} {HM : List MG} {SM : Nat → Option MG} {pf : Nat → Int32} {pn : Nat} {x sec : Int32} (hr : isMD w ((f, n, nI m, jp, cl, lo, ps, cs, mk, qt, oc), P) HM SM pf pn) (hI : GI ((f, n, nI m, jp, cl, lo, ps, cs, mk, qt, oc), P)) (hm : m < 2) : Cl Γ yX7_hop XX7_hop 9 0 0 [.ref 43, .int x, .int sec] w (fun r w1 => if hasO (hopsN f (nI m) jp oc) x = true then (if 0 ≤ sec ∧ sec ≤ 9999 then (∃ q, (hopsN f (nI m) jp oc)[x.toNatClampNeg]? = some q ∧ rP (gsO (hopG (f, n, nI m, jp, cl, lo, ps, cs, mk, qt, oc) m q sec)) (toMD w (hopM ((f, n, nI m, jp, cl, lo, ps, cs, mk, qt, oc), P) m q sec) (keepM HM ((f, n, nI m, jp, cl, lo, ps, cs, mk, qt, oc), P)) SM pf pn) r w1) else rP (-2) (toMD w ((f, n, nI m, jp, cl, lo, ps, cs, mk, qt, oc), P) HM SM pf pn) r w1) else rP (-1) (toMD w ((f, n, nI m, jp, cl, lo, ps, cs, mk, qt, oc), P) HM SM pf pn) r w1) := by
  refine Cl.of (ls := [some (.ref 43), some (.int x), some (.int sec), none]) rfl (by decide +kernel) (fun h => by cases h) (Nat.le_of_ble_eq_true rfl) rfl ?_
  obtain ⟨hk, ⟨z, hz, hG⟩, W, hW⟩ := id hr
  obtain ⟨rm, sp, wr, pa, sl, sv, rd, ho, hpa, hH6, hpH, hsl, hsv, hpS, hpd, hpn, hrd⟩ := id hk
  have hA : zA z f (nI m) oc cs cl mk jp lo qt P := hG.1
  have hP61 := hG.2
  obtain ⟨hok, hf, hnC, hsL, hjj, hjp, hpP, hPo, hclp, hcsp, hoc0⟩ := id hI
  have hf : okF f := hf
  have hnC : nC f n := hnC
  have hsL : sdL f := hsL
  have hjj : jjO f (nI m) jp := hjj
  have hmv : nI m = 0 ∨ nI m = 1 := hok.1
  have hpP : ps = P.map t3p := hpP
  have hPo : ∀ p ∈ P, okp3 p := hPo
  refine r_aload_n 1 dX7_hop_0 rfl rfl rfl ?_
  refine r_callV0 4 dX7_hop_1 rfl (tX7_look ho hz hA.F hW hf hmv hjj) l_X7_124 mX7_look rfl (by repeat (first | assumption | refine gs_eq ?_ | refine gs_ne (by omega) ?_ | exact is_of (by assumption) | refine gs_is ?_)) rfl (by decide) (Nat.le_of_ble_eq_true rfl) (by decide) (qN fun w1 h1 => ?_)
  obtain ⟨hFL, V, hV, hb, hs0, hc0, hl⟩ := id h1
  have oV := (hFL.2 43 (by unfold wS; omega)).trans ho
  have zV := (hFL.2 44 (by unfold wS; omega)).trans hz
  have hkV := hk.z hFL.zW
  obtain ⟨v49, v50, v51, v52, v53, v54, v55, v56, v57⟩ := id hV
  have eh := hl.2.1
  have hl192 := hl.1
  refine r_iload_n 5 dX7_hop_4 rfl rfl ?_
  refine r_iconst (v := 0) 6 dX7_hop_5 rfl (by decide) ?_
  refine r_aload_n 7 dX7_hop_6 rfl rfl rfl ?_
  refine r_getf 10 dX7_hop_7 rfl f_X7_36.r (by repeat (first | assumption | refine gs_eq ?_ | refine gs_ne (by omega) ?_ | exact is_of (by assumption) | refine gs_is ?_)) rfl ?_
  refine r_iconst (v := 0) 11 dX7_hop_10 rfl (by decide) ?_
  refine r_iald 12 dX7_hop_11 rfl (0) (by repeat (first | assumption | refine gs_eq ?_ | refine gs_ne (by omega) ?_ | exact is_of (by assumption) | refine gs_is ?_)) rfl (by decide) (by decide) ?_
  rw [eh]
  refine r_iconst (v := 1) 13 dX7_hop_12 rfl (by decide) ?_
  refine r_isub 14 dX7_hop_13 rfl ?_
  refine r_callS0 17 dX7_hop_14 rfl (tX7_in) l_X7_61 mX7_in rfl (by decide) (Nat.le_of_ble_eq_true rfl) (by decide) (qI ?_)
  rw [inI_has (by omega)]
  refine r_if_ne 22 20 dX7_hop_17 (by decide) rfl (fun q17 => ?_) (fun q17 => ?_)
  · refine r_iload_n 23 dX7_hop_22 rfl rfl ?_
    refine r_iconst (v := 0) 24 dX7_hop_23 rfl (by decide) ?_
    refine r_sipush (v := 9999) 27 dX7_hop_24 rfl (by decide) ?_
    refine r_callS0 30 dX7_hop_27 rfl (tX7_in) l_X7_61 mX7_in rfl (by decide) (Nat.le_of_ble_eq_true rfl) (by decide) (qI ?_)
    refine r_if_ne 36 33 dX7_hop_30 (by decide) rfl (fun q30 => ?_) (fun q30 => ?_)
    · have hx := ne_f q17
      obtain ⟨j, hjl0, hj⟩ := hasO_ix (by omega) hx
      subst hj
      obtain ⟨q, hq⟩ : ∃ q, (hopsN f (nI m) jp oc)[j]? = some q := ⟨(hopsN f (nI m) jp oc)[j], List.getElem?_eq_getElem hjl0⟩
      have hjl : j < (hopsN f (nI m) jp oc).length := (List.getElem?_eq_some_iff.mp hq).1
      have hqm := List.mem_of_getElem? hq
      have hoc := hopsN_z hqm
      have hqc : q ∈ hopsC f (nI m) jp := by
        unfold hopsN at hqm
        rw [if_pos hoc] at hqm
        exact hqm
      have hgq := hopsC_go hmv hqc
      have hpq : qtB f q = true → P.length ≤ 60 := fun _ => by
        have h9 : ps.length ≤ 60 := hok.2.2.2.2 hoc
        rw [hpP, List.length_map] at h9
        exact h9
      refine r_aload_n 37 dX7_hop_36 rfl rfl rfl ?_
      refine r_callV0 40 dX7_hop_37 rfl (tX7_record hkV zV hG) l_X7_76 mX7_record rfl (by repeat (first | assumption | refine gs_eq ?_ | refine gs_ne (by omega) ?_ | exact is_of (by assumption) | refine gs_is ?_)) rfl (by decide) (Nat.le_of_ble_eq_true rfl) (by decide) (qN fun w2 h2 => ?_)
      obtain ⟨hF2, hk2⟩ := h2
      have hz2 := (hF2.2 44 (by decide)).trans zV
      obtain ⟨rm1, sp1, wr1, pa1, sl1, sv1, rd1, ho2, -⟩ := id hk2
      have hV2 := hV.fr hF2 (fun q a b => by unfold wS at a; omega)
      refine r_aload_n 41 dX7_hop_40 rfl rfl rfl ?_
      refine r_getf 44 dX7_hop_41 rfl f_X7_7.r (by repeat (first | assumption | refine gs_eq ?_ | refine gs_ne (by omega) ?_ | exact is_of (by assumption) | refine gs_is ?_)) rfl ?_
      refine r_bipush (v := 48) 46 dX7_hop_44 rfl (by decide) ?_
      refine r_iald 47 dX7_hop_46 rfl (48) (by repeat (first | assumption | refine gs_eq ?_ | refine gs_ne (by omega) ?_ | exact is_of (by assumption) | refine gs_is ?_)) rfl (by decide) (by decide) ?_
      rw [hA.2.1]
      refine r_istore_n (ls1 := [_, _, _, _]) 48 dX7_hop_47 rfl (by decide) rfl rfl ?_
      refine r_iload_n 49 dX7_hop_48 rfl rfl ?_
      refine r_aload_n 50 dX7_hop_49 rfl rfl rfl ?_
      refine r_getf 53 dX7_hop_50 rfl f_X7_7.r (by repeat (first | assumption | refine gs_eq ?_ | refine gs_ne (by omega) ?_ | exact is_of (by assumption) | refine gs_is ?_)) rfl ?_
      refine r_bipush (v := nI 51) 55 dX7_hop_53 rfl (by decide) ?_
      refine r_iload_n 56 dX7_hop_55 rfl rfl ?_
      refine r_iadd 57 dX7_hop_56 rfl ?_
      rw [nI_add]
      refine r_iald 58 dX7_hop_57 rfl (51 + m) (by repeat (first | assumption | refine gs_eq ?_ | refine gs_ne (by omega) ?_ | exact is_of (by assumption) | refine gs_is ?_)) rfl (by omega) (by decide) ?_
      have hcl : z (51 + m) = cl m := by
        rcases side_m hm with rfl | rfl
        · exact hA.2.2.2.2.1
        · exact hA.2.2.2.2.2.1
      rw [hcl]
      refine r_icmp_le 90 61 dX7_hop_58 (by decide) rfl (fun q58 => ?_) (fun q58 => ?_)
      · refine r_aload_n 91 dX7_hop_90 rfl rfl rfl ?_
        refine r_getf 94 dX7_hop_91 rfl f_X7_7.r (by repeat (first | assumption | refine gs_eq ?_ | refine gs_ne (by omega) ?_ | exact is_of (by assumption) | refine gs_is ?_)) rfl ?_
        refine r_bipush (v := nI 51) 96 dX7_hop_94 rfl (by decide) ?_
        refine r_iload_n 97 dX7_hop_96 rfl rfl ?_
        refine r_iadd 98 dX7_hop_97 rfl ?_
        rw [nI_add]
        refine r_dup2 99 dX7_hop_98 rfl rfl rfl ?_
        refine r_iald 100 dX7_hop_99 rfl (51 + m) (by repeat (first | assumption | refine gs_eq ?_ | refine gs_ne (by omega) ?_ | exact is_of (by assumption) | refine gs_is ?_)) rfl (by omega) (by decide) ?_
        rw [hcl]
        refine r_iload_n 101 dX7_hop_100 rfl rfl ?_
        refine r_isub 102 dX7_hop_101 rfl ?_
        refine r_iast 103 dX7_hop_102 rfl (51 + m) (by repeat (first | assumption | refine gs_eq ?_ | refine gs_ne (by omega) ?_ | exact is_of (by assumption) | refine gs_is ?_)) rfl (by omega) (by decide) ?_
        have hA2 : zA (upd z (51 + m) (cl m - sec)) f (nI m) oc cs (upd cl m (cl m - sec)) mk jp lo qt P := by
          rcases side_m hm with rfl | rfl
          · exact hA.s51
          · exact hA.s52
        have hFz : Fr w2 (w2.set 44 (aI 431 (upd z (51 + m) (cl m - sec)))) (fun q => q = 44) := Fr.st rfl
        refine r_aload_n 104 dX7_hop_103 rfl rfl rfl ?_
        refine r_iload_n 105 dX7_hop_104 rfl rfl ?_
        refine r_callV0 108 dX7_hop_105 rfl (tX7_makeIt (by repeat (first | assumption | refine gs_eq ?_ | refine gs_ne (by omega) ?_ | exact is_of (by assumption) | refine gs_is ?_)) (by repeat (first | assumption | refine gs_eq ?_ | refine gs_ne (by omega) ?_ | exact is_of (by assumption) | refine gs_is ?_)) hA2 (hV2.s44 hFz) hb hs0 hl hq hgq hf hm hpq hPo) l_X7_156 mX7_makeIt rfl (by repeat (first | assumption | refine gs_eq ?_ | refine gs_ne (by omega) ?_ | exact is_of (by assumption) | refine gs_is ?_)) rfl (by decide) (Nat.le_of_ble_eq_true rfl) (by decide) (qN fun w3 jm => ?_)
        obtain ⟨j1, y3, V3, jz3, jA3, jW3⟩ := jm
        have ho3 := (j1.2 43 (by unfold zS wS; omega)).trans ((by repeat (first | assumption | refine gs_eq ?_ | refine gs_ne (by omega) ?_ | exact is_of (by assumption) | refine gs_is ?_)) : _ = some (oM (nI (keepM HM ((f, n, nI m, jp, cl, lo, ps, cs, mk, qt, oc), P)).length) (nI pn) rm1 sp1 wr1))
        refine r_aload_n 109 dX7_hop_108 rfl rfl rfl ?_
        refine r_getf 112 dX7_hop_109 rfl f_X7_7.r (by repeat (first | assumption | refine gs_eq ?_ | refine gs_ne (by omega) ?_ | exact is_of (by assumption) | refine gs_is ?_)) rfl ?_
        refine r_bipush (v := 49) 114 dX7_hop_112 rfl (by decide) ?_
        refine r_iald 115 dX7_hop_114 rfl (49) (by repeat (first | assumption | refine gs_eq ?_ | refine gs_ne (by omega) ?_ | exact is_of (by assumption) | refine gs_is ?_)) rfl (by decide) (by decide) ?_
        refine r_iret dX7_hop_115 rfl (by decide) (by decide) ?_
        first
        | (rw [if_pos hx, if_pos (of_decide_eq_true (ne_f q30)), pk_us]
           refine ⟨q, by rw [nI_clamp (by omega)]; exact hq, ?_⟩
           have hA4 : zA (upd (upd z (51 + m) 0) 49 2) f (nI m) (wonO (nI (1 - m))) cs (upd cl m 0) mk jp lo qt P := by
             rcases side_m hm with rfl | rfl
             · first | exact (hA.s51).s49 | exact absurd rfl q78
             · first | exact (hA.s52).s49 | exact absurd q78 (by decide)
           have e1 : hopM ((f, n, nI m, jp, cl, lo, ps, cs, mk, qt, oc), P) m q sec = ((f, n, nI m, jp, upd cl m 0, lo, ps, cs, mk, qt, wonO (nI (1 - m))), P) := by
             unfold hopM hopG
             rw [if_neg (show ¬ sec ≤ cl m from q58), if_neg (show ¬ sec ≤ cl m from q58)]
           have e2 : gsO (hopG (f, n, nI m, jp, cl, lo, ps, cs, mk, qt, oc) m q sec) = wonO (nI (1 - m)) := congrArg (fun X : MG => gsO X.1) e1
           rw [e1, e2]
           exact ⟨(by rcases side_m hm with rfl | rfl <;> first | rfl | exact absurd rfl q78 | exact absurd q78 (by decide)), Fr.tr (Fr.tr (Fr.tr hFL.mW hF2.mR) (Fr.st (by unfold mS; decide))) (Fr.st (by unfold mS; decide)), (hk2.z (Fr.st (Or.inl rfl))).z (Fr.st (Or.inl rfl)), ⟨_, (by repeat (first | assumption | refine gs_eq ?_ | refine gs_ne (by omega) ?_ | exact is_of (by assumption) | refine gs_is ?_)), hA4, hP61⟩, V, (hV2.s44 (Fr.st rfl)).s44 (Fr.st rfl)⟩)
        | (rw [if_pos hx, if_pos (of_decide_eq_true (ne_f q30)), pk_us]
           refine ⟨q, by rw [nI_clamp (by omega)]; exact hq, ?_⟩
           have hA4 : zA (upd (upd z (51 + m) 0) 49 1) f (nI m) (wonO (nI (1 - m))) cs (upd cl m 0) mk jp lo qt P := by
             rcases side_m hm with rfl | rfl
             · first | exact (hA.s51).s49 | exact absurd rfl q78
             · first | exact (hA.s52).s49 | exact absurd q78 (by decide)
           have e1 : hopM ((f, n, nI m, jp, cl, lo, ps, cs, mk, qt, oc), P) m q sec = ((f, n, nI m, jp, upd cl m 0, lo, ps, cs, mk, qt, wonO (nI (1 - m))), P) := by
             unfold hopM hopG
             rw [if_neg (show ¬ sec ≤ cl m from q58), if_neg (show ¬ sec ≤ cl m from q58)]
           have e2 : gsO (hopG (f, n, nI m, jp, cl, lo, ps, cs, mk, qt, oc) m q sec) = wonO (nI (1 - m)) := congrArg (fun X : MG => gsO X.1) e1
           rw [e1, e2]
           exact ⟨(by rcases side_m hm with rfl | rfl <;> first | rfl | exact absurd rfl q78 | exact absurd q78 (by decide)), Fr.tr (Fr.tr (Fr.tr hFL.mW hF2.mR) (Fr.st (by unfold mS; decide))) (Fr.st (by unfold mS; decide)), (hk2.z (Fr.st (Or.inl rfl))).z (Fr.st (Or.inl rfl)), ⟨_, (by repeat (first | assumption | refine gs_eq ?_ | refine gs_ne (by omega) ?_ | exact is_of (by assumption) | refine gs_is ?_)), hA4, hP61⟩, V, (hV2.s44 (Fr.st rfl)).s44 (Fr.st rfl)⟩)
        | (rw [if_pos hx, if_pos (of_decide_eq_true (ne_f q30)), jA3.2.2.1]
           refine ⟨q, by rw [nI_clamp (by omega)]; exact hq, congrArg (fun v => some (Value.int v)) (hopM_oc q58 hpP).symm, Fr.tr (Fr.tr (Fr.tr hFL.mW hF2.mR) (Fr.st (by unfold mS; decide))) j1.mZ, (hk2.z (Fr.st (Or.inl rfl))).z j1, ⟨_, jz3, hopM_G q58 hpP (psM_len (X := ((f, n, nI m, jp, cl, lo, ps, cs, mk, qt, oc), P)) hpq) jA3⟩, V3, jW3⟩)
      · refine r_aload_n 62 dX7_hop_61 rfl rfl rfl ?_
        refine r_getf 65 dX7_hop_62 rfl f_X7_7.r (by repeat (first | assumption | refine gs_eq ?_ | refine gs_ne (by omega) ?_ | exact is_of (by assumption) | refine gs_is ?_)) rfl ?_
        refine r_bipush (v := nI 51) 67 dX7_hop_65 rfl (by decide) ?_
        refine r_iload_n 68 dX7_hop_67 rfl rfl ?_
        refine r_iadd 69 dX7_hop_68 rfl ?_
        rw [nI_add]
        refine r_iconst (v := 0) 70 dX7_hop_69 rfl (by decide) ?_
        refine r_iast 71 dX7_hop_70 rfl (51 + m) (by repeat (first | assumption | refine gs_eq ?_ | refine gs_ne (by omega) ?_ | exact is_of (by assumption) | refine gs_is ?_)) rfl (by omega) (by decide) ?_
        refine r_aload_n 72 dX7_hop_71 rfl rfl rfl ?_
        refine r_getf 75 dX7_hop_72 rfl f_X7_7.r (by repeat (first | assumption | refine gs_eq ?_ | refine gs_ne (by omega) ?_ | exact is_of (by assumption) | refine gs_is ?_)) rfl ?_
        refine r_bipush (v := 49) 77 dX7_hop_75 rfl (by decide) ?_
        refine r_iload_n 78 dX7_hop_77 rfl rfl ?_
        refine r_if_ne 85 81 dX7_hop_78 (by decide) rfl (fun q78 => ?_) (fun q78 => ?_)
        · refine r_iconst (v := 1) 86 dX7_hop_85 rfl (by decide) ?_
          refine r_iast 87 dX7_hop_86 rfl (49) (by repeat (first | assumption | refine gs_eq ?_ | refine gs_ne (by omega) ?_ | exact is_of (by assumption) | refine gs_is ?_)) rfl (by decide) (by decide) ?_
          refine r_goto 108 dX7_hop_87 (by decide) ?_
          refine r_aload_n 109 dX7_hop_108 rfl rfl rfl ?_
          refine r_getf 112 dX7_hop_109 rfl f_X7_7.r (by repeat (first | assumption | refine gs_eq ?_ | refine gs_ne (by omega) ?_ | exact is_of (by assumption) | refine gs_is ?_)) rfl ?_
          refine r_bipush (v := 49) 114 dX7_hop_112 rfl (by decide) ?_
          refine r_iald 115 dX7_hop_114 rfl (49) (by repeat (first | assumption | refine gs_eq ?_ | refine gs_ne (by omega) ?_ | exact is_of (by assumption) | refine gs_is ?_)) rfl (by decide) (by decide) ?_
          refine r_iret dX7_hop_115 rfl (by decide) (by decide) ?_
          first
          | (rw [if_pos hx, if_pos (of_decide_eq_true (ne_f q30)), pk_us]
             refine ⟨q, by rw [nI_clamp (by omega)]; exact hq, ?_⟩
             have hA4 : zA (upd (upd z (51 + m) 0) 49 2) f (nI m) (wonO (nI (1 - m))) cs (upd cl m 0) mk jp lo qt P := by
               rcases side_m hm with rfl | rfl
               · first | exact (hA.s51).s49 | exact absurd rfl q78
               · first | exact (hA.s52).s49 | exact absurd q78 (by decide)
             have e1 : hopM ((f, n, nI m, jp, cl, lo, ps, cs, mk, qt, oc), P) m q sec = ((f, n, nI m, jp, upd cl m 0, lo, ps, cs, mk, qt, wonO (nI (1 - m))), P) := by
               unfold hopM hopG
               rw [if_neg (show ¬ sec ≤ cl m from q58), if_neg (show ¬ sec ≤ cl m from q58)]
             have e2 : gsO (hopG (f, n, nI m, jp, cl, lo, ps, cs, mk, qt, oc) m q sec) = wonO (nI (1 - m)) := congrArg (fun X : MG => gsO X.1) e1
             rw [e1, e2]
             exact ⟨(by rcases side_m hm with rfl | rfl <;> first | rfl | exact absurd rfl q78 | exact absurd q78 (by decide)), Fr.tr (Fr.tr (Fr.tr hFL.mW hF2.mR) (Fr.st (by unfold mS; decide))) (Fr.st (by unfold mS; decide)), (hk2.z (Fr.st (Or.inl rfl))).z (Fr.st (Or.inl rfl)), ⟨_, (by repeat (first | assumption | refine gs_eq ?_ | refine gs_ne (by omega) ?_ | exact is_of (by assumption) | refine gs_is ?_)), hA4, hP61⟩, V, (hV2.s44 (Fr.st rfl)).s44 (Fr.st rfl)⟩)
          | (rw [if_pos hx, if_pos (of_decide_eq_true (ne_f q30)), pk_us]
             refine ⟨q, by rw [nI_clamp (by omega)]; exact hq, ?_⟩
             have hA4 : zA (upd (upd z (51 + m) 0) 49 1) f (nI m) (wonO (nI (1 - m))) cs (upd cl m 0) mk jp lo qt P := by
               rcases side_m hm with rfl | rfl
               · first | exact (hA.s51).s49 | exact absurd rfl q78
               · first | exact (hA.s52).s49 | exact absurd q78 (by decide)
             have e1 : hopM ((f, n, nI m, jp, cl, lo, ps, cs, mk, qt, oc), P) m q sec = ((f, n, nI m, jp, upd cl m 0, lo, ps, cs, mk, qt, wonO (nI (1 - m))), P) := by
               unfold hopM hopG
               rw [if_neg (show ¬ sec ≤ cl m from q58), if_neg (show ¬ sec ≤ cl m from q58)]
             have e2 : gsO (hopG (f, n, nI m, jp, cl, lo, ps, cs, mk, qt, oc) m q sec) = wonO (nI (1 - m)) := congrArg (fun X : MG => gsO X.1) e1
             rw [e1, e2]
             exact ⟨(by rcases side_m hm with rfl | rfl <;> first | rfl | exact absurd rfl q78 | exact absurd q78 (by decide)), Fr.tr (Fr.tr (Fr.tr hFL.mW hF2.mR) (Fr.st (by unfold mS; decide))) (Fr.st (by unfold mS; decide)), (hk2.z (Fr.st (Or.inl rfl))).z (Fr.st (Or.inl rfl)), ⟨_, (by repeat (first | assumption | refine gs_eq ?_ | refine gs_ne (by omega) ?_ | exact is_of (by assumption) | refine gs_is ?_)), hA4, hP61⟩, V, (hV2.s44 (Fr.st rfl)).s44 (Fr.st rfl)⟩)
          | (rw [if_pos hx, if_pos (of_decide_eq_true (ne_f q30)), jA3.2.2.1]
             refine ⟨q, by rw [nI_clamp (by omega)]; exact hq, congrArg (fun v => some (Value.int v)) (hopM_oc q58 hpP).symm, Fr.tr (Fr.tr (Fr.tr hFL.mW hF2.mR) (Fr.st (by unfold mS; decide))) j1.mZ, (hk2.z (Fr.st (Or.inl rfl))).z j1, ⟨_, jz3, hopM_G q58 hpP (psM_len (X := ((f, n, nI m, jp, cl, lo, ps, cs, mk, qt, oc), P)) hpq) jA3⟩, V3, jW3⟩)
        · refine r_iconst (v := 2) 82 dX7_hop_81 rfl (by decide) ?_
          refine r_goto 86 dX7_hop_82 (by decide) ?_
          refine r_iast 87 dX7_hop_86 rfl (49) (by repeat (first | assumption | refine gs_eq ?_ | refine gs_ne (by omega) ?_ | exact is_of (by assumption) | refine gs_is ?_)) rfl (by decide) (by decide) ?_
          refine r_goto 108 dX7_hop_87 (by decide) ?_
          refine r_aload_n 109 dX7_hop_108 rfl rfl rfl ?_
          refine r_getf 112 dX7_hop_109 rfl f_X7_7.r (by repeat (first | assumption | refine gs_eq ?_ | refine gs_ne (by omega) ?_ | exact is_of (by assumption) | refine gs_is ?_)) rfl ?_
          refine r_bipush (v := 49) 114 dX7_hop_112 rfl (by decide) ?_
          refine r_iald 115 dX7_hop_114 rfl (49) (by repeat (first | assumption | refine gs_eq ?_ | refine gs_ne (by omega) ?_ | exact is_of (by assumption) | refine gs_is ?_)) rfl (by decide) (by decide) ?_
          refine r_iret dX7_hop_115 rfl (by decide) (by decide) ?_
          first
          | (rw [if_pos hx, if_pos (of_decide_eq_true (ne_f q30)), pk_us]
             refine ⟨q, by rw [nI_clamp (by omega)]; exact hq, ?_⟩
             have hA4 : zA (upd (upd z (51 + m) 0) 49 2) f (nI m) (wonO (nI (1 - m))) cs (upd cl m 0) mk jp lo qt P := by
               rcases side_m hm with rfl | rfl
               · first | exact (hA.s51).s49 | exact absurd rfl q78
               · first | exact (hA.s52).s49 | exact absurd q78 (by decide)
             have e1 : hopM ((f, n, nI m, jp, cl, lo, ps, cs, mk, qt, oc), P) m q sec = ((f, n, nI m, jp, upd cl m 0, lo, ps, cs, mk, qt, wonO (nI (1 - m))), P) := by
               unfold hopM hopG
               rw [if_neg (show ¬ sec ≤ cl m from q58), if_neg (show ¬ sec ≤ cl m from q58)]
             have e2 : gsO (hopG (f, n, nI m, jp, cl, lo, ps, cs, mk, qt, oc) m q sec) = wonO (nI (1 - m)) := congrArg (fun X : MG => gsO X.1) e1
             rw [e1, e2]
             exact ⟨(by rcases side_m hm with rfl | rfl <;> first | rfl | exact absurd rfl q78 | exact absurd q78 (by decide)), Fr.tr (Fr.tr (Fr.tr hFL.mW hF2.mR) (Fr.st (by unfold mS; decide))) (Fr.st (by unfold mS; decide)), (hk2.z (Fr.st (Or.inl rfl))).z (Fr.st (Or.inl rfl)), ⟨_, (by repeat (first | assumption | refine gs_eq ?_ | refine gs_ne (by omega) ?_ | exact is_of (by assumption) | refine gs_is ?_)), hA4, hP61⟩, V, (hV2.s44 (Fr.st rfl)).s44 (Fr.st rfl)⟩)
          | (rw [if_pos hx, if_pos (of_decide_eq_true (ne_f q30)), pk_us]
             refine ⟨q, by rw [nI_clamp (by omega)]; exact hq, ?_⟩
             have hA4 : zA (upd (upd z (51 + m) 0) 49 1) f (nI m) (wonO (nI (1 - m))) cs (upd cl m 0) mk jp lo qt P := by
               rcases side_m hm with rfl | rfl
               · first | exact (hA.s51).s49 | exact absurd rfl q78
               · first | exact (hA.s52).s49 | exact absurd q78 (by decide)
             have e1 : hopM ((f, n, nI m, jp, cl, lo, ps, cs, mk, qt, oc), P) m q sec = ((f, n, nI m, jp, upd cl m 0, lo, ps, cs, mk, qt, wonO (nI (1 - m))), P) := by
               unfold hopM hopG
               rw [if_neg (show ¬ sec ≤ cl m from q58), if_neg (show ¬ sec ≤ cl m from q58)]
             have e2 : gsO (hopG (f, n, nI m, jp, cl, lo, ps, cs, mk, qt, oc) m q sec) = wonO (nI (1 - m)) := congrArg (fun X : MG => gsO X.1) e1
             rw [e1, e2]
             exact ⟨(by rcases side_m hm with rfl | rfl <;> first | rfl | exact absurd rfl q78 | exact absurd q78 (by decide)), Fr.tr (Fr.tr (Fr.tr hFL.mW hF2.mR) (Fr.st (by unfold mS; decide))) (Fr.st (by unfold mS; decide)), (hk2.z (Fr.st (Or.inl rfl))).z (Fr.st (Or.inl rfl)), ⟨_, (by repeat (first | assumption | refine gs_eq ?_ | refine gs_ne (by omega) ?_ | exact is_of (by assumption) | refine gs_is ?_)), hA4, hP61⟩, V, (hV2.s44 (Fr.st rfl)).s44 (Fr.st rfl)⟩)
          | (rw [if_pos hx, if_pos (of_decide_eq_true (ne_f q30)), jA3.2.2.1]
             refine ⟨q, by rw [nI_clamp (by omega)]; exact hq, congrArg (fun v => some (Value.int v)) (hopM_oc q58 hpP).symm, Fr.tr (Fr.tr (Fr.tr hFL.mW hF2.mR) (Fr.st (by unfold mS; decide))) j1.mZ, (hk2.z (Fr.st (Or.inl rfl))).z j1, ⟨_, jz3, hopM_G q58 hpP (psM_len (X := ((f, n, nI m, jp, cl, lo, ps, cs, mk, qt, oc), P)) hpq) jA3⟩, V3, jW3⟩)
    · refine r_bipush (v := (-2)) 35 dX7_hop_33 rfl (by decide) ?_
      refine r_iret dX7_hop_35 rfl (by decide) (by decide) ?_
      rw [if_pos (ne_f q17), if_neg (of_decide_eq_false (bI_0.mp q30))]
      exact ⟨rfl, hr.lk hFL hV⟩
  · refine r_iconst (v := (-1)) 21 dX7_hop_20 rfl (by decide) ?_
    refine r_iret dX7_hop_21 rfl (by decide) (by decide) ?_
    rw [if_neg (eq_f q17)]
    exact ⟨rfl, hr.lk hFL hV⟩

theorem upd_cl {f : Nat → Int32} {m : Nat} : upd f m (f m - 0) = f := by
  funext j
  by_cases e : j = m
  · rw [e, pk_us, Int32.sub_zero]
  · rw [pk_un e]
set_option maxRecDepth 100000 in
theorem tX7_play {Γ : CT} {w : PW} {f n : Nat → Int32} {m : Nat} {jp : Int32} {cl lo : Nat → Int32} {ps : List T3} {cs mk qt oc : Int32} {P : List P3} {HM : List MG} {SM : Nat → Option MG} {pf : Nat → Int32} {pn : Nat} {x y : Int32} (hr : isMD w ((f, n, nI m, jp, cl, lo, ps, cs, mk, qt, oc), P) HM SM pf pn) (hI : GI ((f, n, nI m, jp, cl, lo, ps, cs, mk, qt, oc), P)) (hm : m < 2) : Cl Γ yX7_play XX7_play 9 0 0 [.ref 43, .int x, .int y] w (fun r w1 => if inI x 0 47 = true ∧ inI y 0 47 = true then (if fI (isFT x y) (hopsN f (nI m) jp oc) 0 = -6 then rP (-5) (toMD w ((f, n, nI m, jp, cl, lo, ps, cs, mk, qt, oc), P) HM SM pf pn) r w1 else (∃ j q, (hopsN f (nI m) jp oc)[j]? = some q ∧ fI (isFT x y) (hopsN f (nI m) jp oc) 0 = nI j ∧ rP (gsO (hopG (f, n, nI m, jp, cl, lo, ps, cs, mk, qt, oc) m q 0)) (toMD w (hopM ((f, n, nI m, jp, cl, lo, ps, cs, mk, qt, oc), P) m q 0) (keepM HM ((f, n, nI m, jp, cl, lo, ps, cs, mk, qt, oc), P)) SM pf pn) r w1)) else rI (-1) w r w1) := by
  refine Cl.of (ls := [some (.ref 43), some (.int x), some (.int y), none]) rfl (by decide +kernel) (fun h => by cases h) (Nat.le_of_ble_eq_true rfl) rfl ?_
  obtain ⟨hk, ⟨z, hz, hG⟩, W, hW⟩ := id hr
  obtain ⟨rm, sp, wr, pa, sl, sv, rd, ho, hpa, hH6, hpH, hsl, hsv, hpS, hpd, hpn, hrd⟩ := id hk
  have hA : zA z f (nI m) oc cs cl mk jp lo qt P := hG.1
  have hP61 := hG.2
  obtain ⟨hok, hf, hnC, hsL, hjj, hjp, hpP, hPo, hclp, hcsp, hoc0⟩ := id hI
  have hf : okF f := hf
  have hnC : nC f n := hnC
  have hsL : sdL f := hsL
  have hjj : jjO f (nI m) jp := hjj
  have hmv : nI m = 0 ∨ nI m = 1 := hok.1
  have hpP : ps = P.map t3p := hpP
  have hPo : ∀ p ∈ P, okp3 p := hPo
  have hcl0 : 0 ≤ cl m := hclp m hm
  refine r_iload_n 1 dX7_play_0 rfl rfl ?_
  refine r_callS0 4 dX7_play_1 rfl (tX7_isSquare) l_X7_149 mX7_isSquare rfl (by decide) (Nat.le_of_ble_eq_true rfl) (by decide) (qI ?_)
  refine r_if_eq 14 7 dX7_play_4 (by decide) rfl (fun q4 => ?_) (fun q4 => ?_)
  · refine r_iconst (v := (-1)) 15 dX7_play_14 rfl (by decide) ?_
    refine r_iret dX7_play_15 rfl (by decide) (by decide) ?_
    rw [if_neg (by first | exact (fun z => eq_f q4 z.1) | exact (fun z => eq_f q11 z.2) | exact (fun z => absurd z.1 (by rw [bI_0.mp q4]; decide)))]
    exact ⟨rfl, rfl⟩
  · refine r_iload_n 8 dX7_play_7 rfl rfl ?_
    refine r_callS0 11 dX7_play_8 rfl (tX7_isSquare) l_X7_149 mX7_isSquare rfl (by decide) (Nat.le_of_ble_eq_true rfl) (by decide) (qI ?_)
    refine r_if_ne 16 14 dX7_play_11 (by decide) rfl (fun q11 => ?_) (fun q11 => ?_)
    · refine r_aload_n 17 dX7_play_16 rfl rfl rfl ?_
      refine r_iload_n 18 dX7_play_17 rfl rfl ?_
      refine r_iload_n 19 dX7_play_18 rfl rfl ?_
      refine r_callV0 22 dX7_play_19 rfl (tX7_hopFrom ho hz hA.F hW hf hmv hjj) l_X7_159 mX7_hopFrom rfl (by repeat (first | assumption | refine gs_eq ?_ | refine gs_ne (by omega) ?_ | exact is_of (by assumption) | refine gs_is ?_)) rfl (by decide) (Nat.le_of_ble_eq_true rfl) (by decide) (qP fun w1 h1 => ?_)
      obtain ⟨hFL, V, hV, hb, hs0, hc0, hl⟩ := id h1
      have oV := (hFL.2 43 (by unfold wS; omega)).trans ho
      have zV := (hFL.2 44 (by unfold wS; omega)).trans hz
      have hkV := hk.z hFL.zW
      obtain ⟨v49, v50, v51, v52, v53, v54, v55, v56, v57⟩ := id hV
      have eh := hl.2.1
      have hl192 := hl.1
      refine r_istore_n (ls1 := [_, _, _, _]) 23 dX7_play_22 rfl (by decide) rfl rfl ?_
      refine r_iload_n 24 dX7_play_23 rfl rfl ?_
      refine r_bipush (v := (-6)) 26 dX7_play_24 rfl (by decide) ?_
      refine r_icmp_ne 32 29 dX7_play_26 (by decide) rfl (fun q26 => ?_) (fun q26 => ?_)
      · rcases fI_get (p := isFT x y) (hopsN f (nI m) jp oc) 0 with h9 | ⟨j, q, hq, hpq0, hj⟩
        · exact absurd h9.1 q26
        rw [Nat.zero_add] at hj
        rw [hj]
        have hjl : j < (hopsN f (nI m) jp oc).length := (List.getElem?_eq_some_iff.mp hq).1
        have hqm := List.mem_of_getElem? hq
        have hoc := hopsN_z hqm
        have hqc : q ∈ hopsC f (nI m) jp := by
          unfold hopsN at hqm
          rw [if_pos hoc] at hqm
          exact hqm
        have hgq := hopsC_go hmv hqc
        have hpq : qtB f q = true → P.length ≤ 60 := fun _ => by
          have h9 : ps.length ≤ 60 := hok.2.2.2.2 hoc
          rw [hpP, List.length_map] at h9
          exact h9
        refine r_aload_n 33 dX7_play_32 rfl rfl rfl ?_
        refine r_callV0 36 dX7_play_33 rfl (tX7_record hkV zV hG) l_X7_76 mX7_record rfl (by repeat (first | assumption | refine gs_eq ?_ | refine gs_ne (by omega) ?_ | exact is_of (by assumption) | refine gs_is ?_)) rfl (by decide) (Nat.le_of_ble_eq_true rfl) (by decide) (qN fun w2 h2 => ?_)
        obtain ⟨hF2, hk2⟩ := h2
        have hz2 := (hF2.2 44 (by decide)).trans zV
        obtain ⟨rm1, sp1, wr1, pa1, sl1, sv1, rd1, ho2, -⟩ := id hk2
        have hV2 := hV.fr hF2 (fun q a b => by unfold wS at a; omega)
        refine r_aload_n 37 dX7_play_36 rfl rfl rfl ?_
        refine r_iload_n 38 dX7_play_37 rfl rfl ?_
        refine r_callV0 41 dX7_play_38 rfl (tX7_makeIt ho2 hz2 hA hV2 hb hs0 hl hq hgq hf hm hpq hPo) l_X7_156 mX7_makeIt rfl (by repeat (first | assumption | refine gs_eq ?_ | refine gs_ne (by omega) ?_ | exact is_of (by assumption) | refine gs_is ?_)) rfl (by decide) (Nat.le_of_ble_eq_true rfl) (by decide) (qN fun w3 jm => ?_)
        obtain ⟨j1, y3, V3, jz3, jA3, jW3⟩ := jm
        have ho3 := (j1.2 43 (by unfold zS wS; omega)).trans ((by repeat (first | assumption | refine gs_eq ?_ | refine gs_ne (by omega) ?_ | exact is_of (by assumption) | refine gs_is ?_)) : _ = some (oM (nI (keepM HM ((f, n, nI m, jp, cl, lo, ps, cs, mk, qt, oc), P)).length) (nI pn) rm1 sp1 wr1))
        refine r_aload_n 42 dX7_play_41 rfl rfl rfl ?_
        refine r_getf 45 dX7_play_42 rfl f_X7_7.r (by repeat (first | assumption | refine gs_eq ?_ | refine gs_ne (by omega) ?_ | exact is_of (by assumption) | refine gs_is ?_)) rfl ?_
        refine r_bipush (v := 49) 47 dX7_play_45 rfl (by decide) ?_
        refine r_iald 48 dX7_play_47 rfl (49) (by repeat (first | assumption | refine gs_eq ?_ | refine gs_ne (by omega) ?_ | exact is_of (by assumption) | refine gs_is ?_)) rfl (by decide) (by decide) ?_
        refine r_iret dX7_play_48 rfl (by decide) (by decide) ?_
        rw [if_pos ⟨ne_f q4, ne_f q11⟩, if_neg (nI_n6 (by omega)), jA3.2.2.1]
        exact ⟨j, q, hq, rfl, congrArg (fun v => some (Value.int v)) (hopM_oc hcl0 hpP).symm, Fr.tr (Fr.tr hFL.mW hF2.mR) j1.mZ, hk2.z j1, ⟨_, jz3, hopM_G hcl0 hpP (psM_len (X := ((f, n, nI m, jp, cl, lo, ps, cs, mk, qt, oc), P)) hpq) (by rw [upd_cl]; exact jA3)⟩, V3, jW3⟩
      · refine r_bipush (v := (-5)) 31 dX7_play_29 rfl (by decide) ?_
        refine r_iret dX7_play_31 rfl (by decide) (by decide) ?_
        rw [if_pos ⟨ne_f q4, ne_f q11⟩, if_pos q26]
        exact ⟨rfl, hr.lk hFL hV⟩
    · refine r_iconst (v := (-1)) 15 dX7_play_14 rfl (by decide) ?_
      refine r_iret dX7_play_15 rfl (by decide) (by decide) ?_
      rw [if_neg (by first | exact (fun z => eq_f q4 z.1) | exact (fun z => eq_f q11 z.2) | exact (fun z => absurd z.1 (by rw [bI_0.mp q4]; decide)))]
      exact ⟨rfl, rfl⟩

set_option maxRecDepth 100000 in
theorem tX7_undo {Γ : CT} {w : PW} {f n : Nat → Int32} {mv jp : Int32} {cl lo : Nat → Int32} {ps : List T3} {cs mk qt oc : Int32} {P : List P3} {HM : List MG} {SM : Nat → Option MG} {pf : Nat → Int32} {pn : Nat} {X1 : MG} (hr : isMD w ((f, n, mv, jp, cl, lo, ps, cs, mk, qt, oc), P) HM SM pf pn) (hX1 : 0 < HM.length → HM[HM.length - 1]? = some X1) : Cl Γ yX7_undo XX7_undo 9 0 0 [.ref 43] w (if HM.length = 0 then rI (-5) w else rP (nI (HM.length - 1)) (toMD w X1 HM.dropLast SM pf pn)) := by
  refine Cl.of (ls := [some (.ref 43), none]) rfl (by decide +kernel) (fun h => by cases h) (Nat.le_of_ble_eq_true rfl) rfl ?_
  obtain ⟨hk, ⟨z, hz, hG⟩, W, hW⟩ := id hr
  obtain ⟨rm, sp, wr, pa, sl, sv, rd, ho, hpa, hH6, hpH, hsl, hsv, hpS, hpd, hpn, hrd⟩ := id hk
  have hA : zA z f mv oc cs cl mk jp lo qt P := hG.1
  have hP61 := hG.2
  refine r_aload_n 1 dX7_undo_0 rfl rfl rfl ?_
  refine r_getf 4 dX7_undo_1 rfl f_X7_72.r (by repeat (first | assumption | refine gs_eq ?_ | refine gs_ne (by omega) ?_ | exact is_of (by assumption) | refine gs_is ?_)) rfl ?_
  refine r_if_ne 10 7 dX7_undo_4 (by decide) rfl (fun q4 => ?_) (fun q4 => ?_)
  · have hn0 : ¬ HM.length = 0 := fun z => q4 (by rw [z]; rfl)
    have hX1' := hX1 (by omega)
    rw [if_neg hn0]
    have loop : ∀ (m i : Nat) (u : PW) (E : Nat → Int32), i + m = 431 → (Fr w u (fun q => q = 43 ∨ q = 44)) → (u[43]? = some (oM (nI (HM.length - 1)) (nI pn) rm sp wr)) → (u[44]? = some (aI 431 E)) → (∀ k, k < i → E k = pa (431 * (HM.length - 1) + k)) → Rn Γ XX7_undo (rmO 9 0 0) none (FinM (rP (nI (HM.length - 1)) (toMD w X1 HM.dropLast SM pf pn)) 0 0) 0 0 u 22 [some (.ref 43), some (.int (nI i))] [] := by
      intro m
      induction m with
      | zero =>
        intro i u E hi hF hu3 hu4 hE
        have h9 : i = 431 := by omega
        subst h9
        refine r_iload_n 23 dX7_undo_22 rfl rfl ?_
        refine r_sipush (v := nI 431) 26 dX7_undo_23 rfl (by decide) ?_
        refine r_icmp_ge 56 29 dX7_undo_26 (by decide) rfl (fun q26 => ?_) (fun q26 => absurd q26 (fun z => z (nI_le (by omega) (by omega))))
        refine r_aload_n 57 dX7_undo_56 rfl rfl rfl ?_
        refine r_getf 60 dX7_undo_57 rfl f_X7_72.r (by repeat (first | assumption | refine gs_eq ?_ | refine gs_ne (by omega) ?_ | exact is_of (by assumption) | refine gs_is ?_)) rfl ?_
        refine r_iret dX7_undo_60 rfl (by decide) (by decide) ?_
        refine ⟨rfl, hF.mono (fun q a => by unfold mS; omega), ⟨rm, sp, wr, pa, sl, sv, rd, by rw [List.length_dropLast]; exact hu3, hF.at (by decide) hpa, by rw [List.length_dropLast]; omega, fun i Y hi => ?_, hF.at (by decide) hsl, hF.at (by decide) hsv, hpS, hF.at (by decide) hpd, hpn, hF.at (by decide) hrd⟩, ⟨E, hu4, (hpH _ _ hX1').cg hE⟩, W, hW.fr hF (fun q a b => by unfold wS at a; omega)⟩
        rw [List.getElem?_dropLast] at hi
        split at hi
        · exact hpH i Y hi
        · cases hi
      | succ m ih =>
        intro i u E hi hF hu3 hu4 hE
        have hu5 := (hF.2 45 (by decide)).trans hpa
        refine r_iload_n 23 dX7_undo_22 rfl rfl ?_
        refine r_sipush (v := nI 431) 26 dX7_undo_23 rfl (by decide) ?_
        refine r_icmp_ge 56 29 dX7_undo_26 (by decide) rfl (fun q26 => absurd q26 (nI_ge (by omega) (by omega))) (fun q26 => ?_)
        refine r_aload_n 30 dX7_undo_29 rfl rfl rfl ?_
        refine r_getf 33 dX7_undo_30 rfl f_X7_7.r (by repeat (first | assumption | refine gs_eq ?_ | refine gs_ne (by omega) ?_ | exact is_of (by assumption) | refine gs_is ?_)) rfl ?_
        refine r_iload_n 34 dX7_undo_33 rfl rfl ?_
        refine r_aload_n 35 dX7_undo_34 rfl rfl rfl ?_
        refine r_getf 38 dX7_undo_35 rfl f_X7_13.r (by repeat (first | assumption | refine gs_eq ?_ | refine gs_ne (by omega) ?_ | exact is_of (by assumption) | refine gs_is ?_)) rfl ?_
        refine r_aload_n 39 dX7_undo_38 rfl rfl rfl ?_
        refine r_getf 42 dX7_undo_39 rfl f_X7_72.r (by repeat (first | assumption | refine gs_eq ?_ | refine gs_ne (by omega) ?_ | exact is_of (by assumption) | refine gs_is ?_)) rfl ?_
        refine r_sipush (v := nI 431) 45 dX7_undo_42 rfl (by decide) ?_
        refine r_imul 46 dX7_undo_45 rfl ?_
        rw [pk_mul, Nat.mul_comm _ 431]
        refine r_iload_n 47 dX7_undo_46 rfl rfl ?_
        refine r_iadd 48 dX7_undo_47 rfl ?_
        rw [nI_add]
        refine r_iald 49 dX7_undo_48 rfl (431 * (HM.length - 1) + i) (by repeat (first | assumption | refine gs_eq ?_ | refine gs_ne (by omega) ?_ | exact is_of (by assumption) | refine gs_is ?_)) rfl (by omega) (by decide) ?_
        refine r_iast 50 dX7_undo_49 rfl (i) (by repeat (first | assumption | refine gs_eq ?_ | refine gs_ne (by omega) ?_ | exact is_of (by assumption) | refine gs_is ?_)) rfl (by omega) (by decide) ?_
        refine r_iinc (ls1 := [_, _]) 53 dX7_undo_50 rfl (by decide) rfl rfl (nI_1 i) rfl ?_
        refine r_goto 22 dX7_undo_53 (by decide) ?_
        refine ih (i + 1) _ _ (by omega) (Fr.tr hF (Fr.st (Or.inr rfl))) (by repeat (first | assumption | refine gs_eq ?_ | refine gs_ne (by omega) ?_ | exact is_of (by assumption) | refine gs_is ?_)) (by repeat (first | assumption | refine gs_eq ?_ | refine gs_ne (by omega) ?_ | exact is_of (by assumption) | refine gs_is ?_)) (fun k hk => ?_)
        rcases Nat.lt_or_ge k i with h | h
        · exact (pk_un (by omega)).trans (hE k h)
        · rw [show k = i by omega]
          exact pk_us
    refine r_aload_n 11 dX7_undo_10 rfl rfl rfl ?_
    refine r_dup 12 dX7_undo_11 rfl rfl ?_
    refine r_getf 15 dX7_undo_12 rfl f_X7_72.r (by repeat (first | assumption | refine gs_eq ?_ | refine gs_ne (by omega) ?_ | exact is_of (by assumption) | refine gs_is ?_)) rfl ?_
    refine r_iconst (v := nI 1) 16 dX7_undo_15 rfl (by decide) ?_
    refine r_isub 17 dX7_undo_16 rfl ?_
    rw [pk_sub (by omega)]
    refine r_putf (fs1 := [_, _, _, _, _, _, _, _, _, _, _, _, _, _, _, _, _, _, _, _]) 20 dX7_undo_17 rfl f_X7_72 (by repeat (first | assumption | refine gs_eq ?_ | refine gs_ne (by omega) ?_ | exact is_of (by assumption) | refine gs_is ?_)) rfl (by simp only [List.length_cons, List.length_nil]; omega) rfl ?_
    refine r_iconst (v := nI 0) 21 dX7_undo_20 rfl (by decide) ?_
    refine r_istore_n (ls1 := [_, _]) 22 dX7_undo_21 rfl (by decide) rfl rfl ?_
    exact loop 431 0 _ z (by omega) (Fr.st (Or.inl rfl)) (by repeat (first | assumption | refine gs_eq ?_ | refine gs_ne (by omega) ?_ | exact is_of (by assumption) | refine gs_is ?_)) (by repeat (first | assumption | refine gs_eq ?_ | refine gs_ne (by omega) ?_ | exact is_of (by assumption) | refine gs_is ?_)) (fun k hk => by omega)
  · refine r_bipush (v := (-5)) 9 dX7_undo_7 rfl (by decide) ?_
    refine r_iret dX7_undo_9 rfl (by decide) (by decide) ?_
    rw [if_pos (by rcases Nat.eq_zero_or_pos HM.length with h | h; exact h; exact absurd q4 (nI_ne0 h (by omega)))]
    exact ⟨rfl, rfl⟩

