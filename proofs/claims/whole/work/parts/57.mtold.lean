/-! ===== the model: what the pad tells ===== -/
set_option maxRecDepth 100000 in
theorem tX7_fault {Γ : CT} {w : PW} {f n : Nat → Int32} {mv jp : Int32} {cl lo : Nat → Int32} {ps : List T3} {cs mk qt oc : Int32} {P : List P3} {HM : List MG} {SM : Nat → Option MG} {pf : Nat → Int32} {pn : Nat} (hr : isMD w ((f, n, mv, jp, cl, lo, ps, cs, mk, qt, oc), P) HM SM pf pn) : Cl Γ yX7_fault XX7_fault 9 0 0 [.ref 43] w (rP (ffO pf pn pn 0 0 0) (toMD w ((f, n, mv, jp, cl, lo, ps, cs, mk, qt, oc), P) HM SM pf pn)) := by
  refine Cl.of (ls := [some (.ref 43)]) rfl (by decide +kernel) (fun h => by cases h) (Nat.le_of_ble_eq_true rfl) rfl ?_
  obtain ⟨hk, ⟨z, hz, hG⟩, W, hW⟩ := id hr
  obtain ⟨rm, sp, wr, pa, sl, sv, rd, ho, hpa, hH6, hpH, hsl, hsv, hpS, hpd, hpn, hrd⟩ := id hk
  have hA : zA z f mv oc cs cl mk jp lo qt P := hG.1
  have hP61 := hG.2
  refine r_aload_n 1 dX7_fault_0 rfl rfl rfl ?_
  refine r_callV0 4 dX7_fault_1 rfl (tX7_readPad ho hpd hrd hpn) l_X7_221 mX7_readPad rfl (by repeat (first | assumption | refine gs_eq ?_ | refine gs_ne (by omega) ?_ | exact is_of (by assumption) | refine gs_is ?_)) rfl (by decide) (Nat.le_of_ble_eq_true rfl) (by decide) (qP fun w1 h1 => ?_)
  obtain ⟨hF1, r, sp1, wr1, re, ho1, hrd1, hK⟩ := h1
  refine r_iret dX7_fault_4 rfl (by decide) (by decide) ?_
  exact ⟨rfl, hF1.mono (fun q a => by unfold mS; omega), ⟨nI r, sp1, wr1, pa, sl, sv, re, ho1, hF1.at (by decide) hpa, hH6, hpH, hF1.at (by decide) hsl, hF1.at (by decide) hsv, hpS, hF1.at (by decide) hpd, hpn, hrd1⟩, ⟨z, hF1.at (by decide) hz, hG⟩, W, hW.fr hF1 (fun q a b => by unfold wS at a; omega)⟩

def zR (w : PW) (X : MG) : PW → Prop := fun w1 => Fr w w1 zS ∧ (∃ z, w1[44]? = some (aI 431 z) ∧ zG z X) ∧ ∃ W, isW w1 W
theorem qTM {Γ : CT} {X : MX} {R : Room} {sc : Option (Nat × (Nat → Int32))} {FZ : FX} {kc ks : Nat} {pc : Nat} {ls : List (Option Value)} {st : List Value} {o : Option MG} {P : PW → Prop} {Q : MG → PW → Prop} (k0 : o = none → ∀ w1, P w1 → Rn Γ X R sc FZ kc ks w1 pc ls (.int 0 :: st)) (k1 : ∀ G1, o = some G1 → ∀ w1, Q G1 w1 → Rn Γ X R sc FZ kc ks w1 pc ls (.int 1 :: st)) : ∀ r w1, ((o = none → rP 0 P r w1) ∧ ∀ G1, o = some G1 → rP 1 (Q G1) r w1) → Rn Γ X R sc FZ kc ks w1 pc ls (r.toList ++ st) := by
  intro r w1 h
  cases o with
  | none =>
    obtain ⟨e, h1⟩ := h.1 rfl
    subst e
    exact k0 rfl w1 h1
  | some G1 =>
    obtain ⟨e, h1⟩ := h.2 G1 rfl
    subst e
    exact k1 G1 rfl w1 h1
def plM (re : Nat → Int32) : Nat → Nat → MG → Int32 → Int32 × MG
  | 0, _, X, md => (md, X)
  | m + 1, i, X, md => match tellM X (re (3 * i)) (re (3 * i + 2)) (re (3 * i + 1)) with | none => (md, X) | some X1 => plM re m (i + 1) X1 (md + 1)
theorem plM_K {re : Nat → Int32} : ∀ (m i : Nat) (X : MG) (md : Int32), plK re m i (fun G md => (md, G)) X.1 md = ((plM re m i X md).1, (plM re m i X md).2.1)
  | 0, i, X, md => rfl
  | m + 1, i, X, md => by
    rw [plK, plM, tellM_1]
    cases tellM X (re (3 * i)) (re (3 * i + 2)) (re (3 * i + 1)) with
    | none => rfl
    | some X1 => exact plM_K m (i + 1) X1 (md + 1)
theorem plM_GI {re : Nat → Int32} : ∀ (m i : Nat) (X : MG) (md : Int32), GI X → GI (plM re m i X md).2
  | 0, i, X, md, h => h
  | m + 1, i, X, md, h => by
    rw [plM]
    cases ht : tellM X (re (3 * i)) (re (3 * i + 2)) (re (3 * i + 1)) with
    | none => exact h
    | some X1 => exact plM_GI m (i + 1) X1 (md + 1) (tellM_GI h ht)
set_option maxRecDepth 100000 in
theorem tX7_plays0 {Γ : CT} {w : PW} {pm ty rm sp wr : Int32} {z : Nat → Int32} {W : MW} {rd : Nat → Int32} {f n : Nat → Int32} {m : Nat} {jp : Int32} {cl lo : Nat → Int32} {ps : List T3} {cs mk qt oc : Int32} {P : List P3} {k : Nat} {x y jb : Int32} (ho : w[43]? = some (oM pm ty rm sp wr)) (hz : w[44]? = some (aI 431 z)) (hG : zG z ((f, n, nI m, jp, cl, lo, ps, cs, mk, qt, oc), P)) (hW : isW w W) (hI : GI ((f, n, nI m, jp, cl, lo, ps, cs, mk, qt, oc), P)) (hm : m < 2) (hd : w[58]? = some (aI 60 rd)) (hk : k ≤ 19) (hx : rd (3 * k) = x) (hy : rd (3 * k + 2) = y) (hjb : rd (3 * k + 1) = jb) (hb01 : jb = 0 ∨ jb = 1) : Cl Γ yX7_plays XX7_plays 9 0 0 [.ref 43, .int (nI k)] w (fun r w1 => (tellM ((f, n, nI m, jp, cl, lo, ps, cs, mk, qt, oc), P) x y jb = none → rP 0 (zR w ((f, n, nI m, jp, cl, lo, ps, cs, mk, qt, oc), P)) r w1) ∧ ∀ X1, tellM ((f, n, nI m, jp, cl, lo, ps, cs, mk, qt, oc), P) x y jb = some X1 → rP 1 (zR w X1) r w1) := by
  refine Cl.of (ls := [some (.ref 43), some (.int (nI k)), none, none]) rfl (by decide +kernel) (fun h => by cases h) (Nat.le_of_ble_eq_true rfl) rfl ?_
  have hA : zA z f (nI m) oc cs cl mk jp lo qt P := hG.1
  have hP61 := hG.2
  obtain ⟨hok, hf, hnC, hsL, hjj, hjp, hpP, hPo, hclp, hcsp, hoc0⟩ := id hI
  have hf : okF f := hf
  have hnC : nC f n := hnC
  have hsL : sdL f := hsL
  have hjj : jjO f (nI m) jp := hjj
  have hmv : nI m = 0 ∨ nI m = 1 := hok.1
  have hpP : ps = P.map t3p := hpP
  have hPo : ∀ p ∈ P, okp3 p := hPo
  have hcl0 : 0 ≤ cl m := hclp m hm
  refine r_aload_n 1 dX7_plays_0 rfl rfl rfl ?_
  refine r_aload_n 2 dX7_plays_1 rfl rfl rfl ?_
  refine r_getf 5 dX7_plays_2 rfl f_X7_54.r (by repeat (first | assumption | refine gs_eq ?_ | refine gs_ne (by omega) ?_ | exact is_of (by assumption) | refine gs_is ?_)) rfl ?_
  refine r_iconst (v := nI 3) 6 dX7_plays_5 rfl (by decide) ?_
  refine r_iload_n 7 dX7_plays_6 rfl rfl ?_
  refine r_imul 8 dX7_plays_7 rfl ?_
  rw [pk_mul]
  refine r_iald 9 dX7_plays_8 rfl (3 * k) (by repeat (first | assumption | refine gs_eq ?_ | refine gs_ne (by omega) ?_ | exact is_of (by assumption) | refine gs_is ?_)) rfl (by omega) (by decide) ?_
  rw [hx]
  refine r_aload_n 10 dX7_plays_9 rfl rfl rfl ?_
  refine r_getf 13 dX7_plays_10 rfl f_X7_54.r (by repeat (first | assumption | refine gs_eq ?_ | refine gs_ne (by omega) ?_ | exact is_of (by assumption) | refine gs_is ?_)) rfl ?_
  refine r_iconst (v := nI 3) 14 dX7_plays_13 rfl (by decide) ?_
  refine r_iload_n 15 dX7_plays_14 rfl rfl ?_
  refine r_imul 16 dX7_plays_15 rfl ?_
  rw [pk_mul]
  refine r_iconst (v := nI 2) 17 dX7_plays_16 rfl (by decide) ?_
  refine r_iadd 18 dX7_plays_17 rfl ?_
  rw [nI_add]
  refine r_iald 19 dX7_plays_18 rfl (3 * k + 2) (by repeat (first | assumption | refine gs_eq ?_ | refine gs_ne (by omega) ?_ | exact is_of (by assumption) | refine gs_is ?_)) rfl (by omega) (by decide) ?_
  rw [hy]
  refine r_callV0 22 dX7_plays_19 rfl (tX7_hopFrom ho hz hA.F hW hf hmv hjj) l_X7_159 mX7_hopFrom rfl (by repeat (first | assumption | refine gs_eq ?_ | refine gs_ne (by omega) ?_ | exact is_of (by assumption) | refine gs_is ?_)) rfl (by decide) (Nat.le_of_ble_eq_true rfl) (by decide) (qP fun w1 h1 => ?_)
  obtain ⟨hFL, V, hV, hb, hs0, hc0, hl⟩ := id h1
  have oV := (hFL.2 43 (by unfold wS; omega)).trans ho
  have zV := (hFL.2 44 (by unfold wS; omega)).trans hz
  have dV := (hFL.2 58 (by unfold wS; omega)).trans hd
  obtain ⟨v49, v50, v51, v52, v53, v54, v55, v56, v57⟩ := id hV
  have hl192 := hl.1
  refine r_istore_n (ls1 := [_, _, _, _]) 23 dX7_plays_22 rfl (by decide) rfl rfl ?_
  refine r_iload_n 24 dX7_plays_23 rfl rfl ?_
  refine r_bipush (v := (-6)) 26 dX7_plays_24 rfl (by decide) ?_
  refine r_icmp_eq 71 29 dX7_plays_26 (by decide) rfl (fun q26 => ?_) (fun q26 => ?_)
  · refine r_iconst (v := 0) 72 dX7_plays_71 rfl (by decide) ?_
    refine r_istore_n (ls1 := [_, _, _, _]) 73 dX7_plays_72 rfl (by decide) rfl rfl ?_
    refine r_iload_n 74 dX7_plays_73 rfl rfl ?_
    refine r_if_eq 82 77 dX7_plays_74 (by decide) rfl (fun q74 => ?_) (fun q74 => absurd q74 (by decide))
    refine r_iload_n 83 dX7_plays_82 rfl rfl ?_
    refine r_bret dX7_plays_83 rfl (by first | exact Or.inl rfl | exact Or.inr rfl) (by decide) (by decide) ?_
    first
    | exact absurd rfl q64
    | exact absurd q64 (by decide)
    | (rw [if_pos (by first | (rw [bI_no (fun z => z q37), hb01.resolve_right q56]) | (rw [bI_of q37, q56]))] at htl
       refine ⟨fun z => (by rw [htl] at z; cases z), fun X1 z => ?_⟩
       rw [htl] at z
       cases z
       obtain ⟨j1, y3, V3, jz3, jA3, jW3⟩ := jm
       exact ⟨rfl, Fr.tr hFL.zW j1, ⟨_, jz3, hopM_G hcl0 hpP (psM_len (X := ((f, n, nI m, jp, cl, lo, ps, cs, mk, qt, oc), P)) hpq) (by rw [upd_cl]; exact jA3)⟩, V3, jW3⟩)
    | (have ejb : jb = 0 ∨ jb = 1 := hb01
       rw [if_neg (by first | (rw [bI_no (fun z => z q37), q56]; decide) | (rw [bI_of q37, hb01.resolve_right q56]; decide))] at htl
       exact ⟨fun _ => ⟨rfl, hFL.zW, ⟨z, zV, hG⟩, V, hV⟩, fun X1 z => (by rw [htl] at z; cases z)⟩)
    | (have htl : tellM ((f, n, nI m, jp, cl, lo, ps, cs, mk, qt, oc), P) x y jb = none := by
         unfold tellM
         rcases hfd : (hpsG (f, n, nI m, jp, cl, lo, ps, cs, mk, qt, oc)).find? (isFT x y) with _ | q
         · rfl
         · exfalso
           obtain ⟨j, hq, hj⟩ := (fI_find _ 0).2 q hfd
           have hj : fI (isFT x y) (hopsN f (nI m) jp oc) 0 = nI (0 + j) := hj
           rw [hj, Nat.zero_add] at q26
           have hq : (hopsN f (nI m) jp oc)[j]? = some q := hq
           have hjl : j < (hopsN f (nI m) jp oc).length := (List.getElem?_eq_some_iff.mp hq).1
           exact nI_n6 (by omega) q26
       exact ⟨fun _ => ⟨rfl, hFL.zW, ⟨z, zV, hG⟩, V, hV⟩, fun X1 z => (by rw [htl] at z; cases z)⟩)
  · rcases hfd : (hpsG (f, n, nI m, jp, cl, lo, ps, cs, mk, qt, oc)).find? (isFT x y) with _ | q
    · exact absurd ((fI_find _ 0).1 hfd) q26
    obtain ⟨j, hq, hj⟩ := (fI_find _ 0).2 q hfd
    have hq : (hopsN f (nI m) jp oc)[j]? = some q := hq
    have hj : fI (isFT x y) (hopsN f (nI m) jp oc) 0 = nI (0 + j) := hj
    rw [Nat.zero_add] at hj
    rw [hj]
    have hjl : j < (hopsN f (nI m) jp oc).length := (List.getElem?_eq_some_iff.mp hq).1
    have hqm := List.mem_of_getElem? hq
    have hoc := hopsN_z hqm
    have hqc : q ∈ hopsC f (nI m) jp := by
      unfold hopsN at hqm
      rw [if_pos hoc] at hqm
      exact hqm
    have hgq := hopsC_go hmv hqc
    have hpq : qtB f q = true → P.length ≤ 60 := fun _ => by
      have h9 : ps.length ≤ 60 := hok.2.2.2.2 hoc
      rw [hpP, List.length_map] at h9
      exact h9
    obtain ⟨e1, e2, e3, e4, e5⟩ := hl.2.2 j q hq
    have htl : tellM ((f, n, nI m, jp, cl, lo, ps, cs, mk, qt, oc), P) x y jb = if bI (decide (¬ q.2.2.2.2 = -6)) = jb then some (hopM ((f, n, nI m, jp, cl, lo, ps, cs, mk, qt, oc), P) m q 0) else none := by
      unfold tellM
      rw [hfd]
      show (if bI (decide (¬ q.2.2.2.2 = -6)) = jb then some (hopM ((f, n, nI m, jp, cl, lo, ps, cs, mk, qt, oc), P) (nI m).toNatClampNeg q 0) else none) = _
      rw [nI_clamp (by omega)]
    refine r_aload_n 30 dX7_plays_29 rfl rfl rfl ?_
    refine r_getf 33 dX7_plays_30 rfl f_X7_51.r (by repeat (first | assumption | refine gs_eq ?_ | refine gs_ne (by omega) ?_ | exact is_of (by assumption) | refine gs_is ?_)) rfl ?_
    refine r_iload_n 34 dX7_plays_33 rfl rfl ?_
    refine r_iald 35 dX7_plays_34 rfl (1500 * 0 + j) (by repeat (first | assumption | refine gs_eq ?_ | refine gs_ne (by omega) ?_ | exact is_of (by assumption) | refine gs_is ?_)) (by rw [Nat.mul_zero, Nat.zero_add]) (by omega) (by decide) ?_
    rw [e5]
    refine r_bipush (v := (-6)) 37 dX7_plays_35 rfl (by decide) ?_
    refine r_icmp_eq 44 40 dX7_plays_37 (by decide) rfl (fun q37 => ?_) (fun q37 => ?_)
    · refine r_iconst (v := 0) 45 dX7_plays_44 rfl (by decide) ?_
      refine r_aload_n 46 dX7_plays_45 rfl rfl rfl ?_
      refine r_getf 49 dX7_plays_46 rfl f_X7_54.r (by repeat (first | assumption | refine gs_eq ?_ | refine gs_ne (by omega) ?_ | exact is_of (by assumption) | refine gs_is ?_)) rfl ?_
      refine r_iconst (v := nI 3) 50 dX7_plays_49 rfl (by decide) ?_
      refine r_iload_n 51 dX7_plays_50 rfl rfl ?_
      refine r_imul 52 dX7_plays_51 rfl ?_
      rw [pk_mul]
      refine r_iconst (v := nI 1) 53 dX7_plays_52 rfl (by decide) ?_
      refine r_iadd 54 dX7_plays_53 rfl ?_
      rw [nI_add]
      refine r_iald 55 dX7_plays_54 rfl (3 * k + 1) (by repeat (first | assumption | refine gs_eq ?_ | refine gs_ne (by omega) ?_ | exact is_of (by assumption) | refine gs_is ?_)) rfl (by omega) (by decide) ?_
      rw [hjb]
      refine r_iconst (v := 1) 56 dX7_plays_55 rfl (by decide) ?_
      refine r_icmp_ne 63 59 dX7_plays_56 (by decide) rfl (fun q56 => ?_) (fun q56 => ?_)
      · refine r_iconst (v := 0) 64 dX7_plays_63 rfl (by decide) ?_
        refine r_icmp_ne 71 67 dX7_plays_64 (by decide) rfl (fun q64 => ?_) (fun q64 => ?_)
        · refine r_iconst (v := 0) 72 dX7_plays_71 rfl (by decide) ?_
          refine r_istore_n (ls1 := [_, _, _, _]) 73 dX7_plays_72 rfl (by decide) rfl rfl ?_
          refine r_iload_n 74 dX7_plays_73 rfl rfl ?_
          refine r_if_eq 82 77 dX7_plays_74 (by decide) rfl (fun q74 => ?_) (fun q74 => absurd q74 (by decide))
          refine r_iload_n 83 dX7_plays_82 rfl rfl ?_
          refine r_bret dX7_plays_83 rfl (by first | exact Or.inl rfl | exact Or.inr rfl) (by decide) (by decide) ?_
          first
          | exact absurd rfl q64
          | exact absurd q64 (by decide)
          | (rw [if_pos (by first | (rw [bI_no (fun z => z q37), hb01.resolve_right q56]) | (rw [bI_of q37, q56]))] at htl
             refine ⟨fun z => (by rw [htl] at z; cases z), fun X1 z => ?_⟩
             rw [htl] at z
             cases z
             obtain ⟨j1, y3, V3, jz3, jA3, jW3⟩ := jm
             exact ⟨rfl, Fr.tr hFL.zW j1, ⟨_, jz3, hopM_G hcl0 hpP (psM_len (X := ((f, n, nI m, jp, cl, lo, ps, cs, mk, qt, oc), P)) hpq) (by rw [upd_cl]; exact jA3)⟩, V3, jW3⟩)
          | (have ejb : jb = 0 ∨ jb = 1 := hb01
             rw [if_neg (by first | (rw [bI_no (fun z => z q37), q56]; decide) | (rw [bI_of q37, hb01.resolve_right q56]; decide))] at htl
             exact ⟨fun _ => ⟨rfl, hFL.zW, ⟨z, zV, hG⟩, V, hV⟩, fun X1 z => (by rw [htl] at z; cases z)⟩)
          | (have htl : tellM ((f, n, nI m, jp, cl, lo, ps, cs, mk, qt, oc), P) x y jb = none := by
               unfold tellM
               rcases hfd : (hpsG (f, n, nI m, jp, cl, lo, ps, cs, mk, qt, oc)).find? (isFT x y) with _ | q
               · rfl
               · exfalso
                 obtain ⟨j, hq, hj⟩ := (fI_find _ 0).2 q hfd
                 have hj : fI (isFT x y) (hopsN f (nI m) jp oc) 0 = nI (0 + j) := hj
                 rw [hj, Nat.zero_add] at q26
                 have hq : (hopsN f (nI m) jp oc)[j]? = some q := hq
                 have hjl : j < (hopsN f (nI m) jp oc).length := (List.getElem?_eq_some_iff.mp hq).1
                 exact nI_n6 (by omega) q26
             exact ⟨fun _ => ⟨rfl, hFL.zW, ⟨z, zV, hG⟩, V, hV⟩, fun X1 z => (by rw [htl] at z; cases z)⟩)
        · refine r_iconst (v := 1) 68 dX7_plays_67 rfl (by decide) ?_
          refine r_goto 72 dX7_plays_68 (by decide) ?_
          refine r_istore_n (ls1 := [_, _, _, _]) 73 dX7_plays_72 rfl (by decide) rfl rfl ?_
          refine r_iload_n 74 dX7_plays_73 rfl rfl ?_
          refine r_if_eq 82 77 dX7_plays_74 (by decide) rfl (fun q74 => absurd q74 (by decide)) (fun q74 => ?_)
          refine r_aload_n 78 dX7_plays_77 rfl rfl rfl ?_
          refine r_iload_n 79 dX7_plays_78 rfl rfl ?_
          refine r_callV0 82 dX7_plays_79 rfl (tX7_makeIt oV zV hA hV hb hs0 hl hq hgq hf hm hpq hPo) l_X7_156 mX7_makeIt rfl (by repeat (first | assumption | refine gs_eq ?_ | refine gs_ne (by omega) ?_ | exact is_of (by assumption) | refine gs_is ?_)) rfl (by decide) (Nat.le_of_ble_eq_true rfl) (by decide) (qN fun w3 jm => ?_)
          refine r_iload_n 83 dX7_plays_82 rfl rfl ?_
          refine r_bret dX7_plays_83 rfl (by first | exact Or.inl rfl | exact Or.inr rfl) (by decide) (by decide) ?_
          first
          | exact absurd rfl q64
          | exact absurd q64 (by decide)
          | (rw [if_pos (by first | (rw [bI_no (fun z => z q37), hb01.resolve_right q56]) | (rw [bI_of q37, q56]))] at htl
             refine ⟨fun z => (by rw [htl] at z; cases z), fun X1 z => ?_⟩
             rw [htl] at z
             cases z
             obtain ⟨j1, y3, V3, jz3, jA3, jW3⟩ := jm
             exact ⟨rfl, Fr.tr hFL.zW j1, ⟨_, jz3, hopM_G hcl0 hpP (psM_len (X := ((f, n, nI m, jp, cl, lo, ps, cs, mk, qt, oc), P)) hpq) (by rw [upd_cl]; exact jA3)⟩, V3, jW3⟩)
          | (have ejb : jb = 0 ∨ jb = 1 := hb01
             rw [if_neg (by first | (rw [bI_no (fun z => z q37), q56]; decide) | (rw [bI_of q37, hb01.resolve_right q56]; decide))] at htl
             exact ⟨fun _ => ⟨rfl, hFL.zW, ⟨z, zV, hG⟩, V, hV⟩, fun X1 z => (by rw [htl] at z; cases z)⟩)
          | (have htl : tellM ((f, n, nI m, jp, cl, lo, ps, cs, mk, qt, oc), P) x y jb = none := by
               unfold tellM
               rcases hfd : (hpsG (f, n, nI m, jp, cl, lo, ps, cs, mk, qt, oc)).find? (isFT x y) with _ | q
               · rfl
               · exfalso
                 obtain ⟨j, hq, hj⟩ := (fI_find _ 0).2 q hfd
                 have hj : fI (isFT x y) (hopsN f (nI m) jp oc) 0 = nI (0 + j) := hj
                 rw [hj, Nat.zero_add] at q26
                 have hq : (hopsN f (nI m) jp oc)[j]? = some q := hq
                 have hjl : j < (hopsN f (nI m) jp oc).length := (List.getElem?_eq_some_iff.mp hq).1
                 exact nI_n6 (by omega) q26
             exact ⟨fun _ => ⟨rfl, hFL.zW, ⟨z, zV, hG⟩, V, hV⟩, fun X1 z => (by rw [htl] at z; cases z)⟩)
      · refine r_iconst (v := 1) 60 dX7_plays_59 rfl (by decide) ?_
        refine r_goto 64 dX7_plays_60 (by decide) ?_
        refine r_icmp_ne 71 67 dX7_plays_64 (by decide) rfl (fun q64 => ?_) (fun q64 => ?_)
        · refine r_iconst (v := 0) 72 dX7_plays_71 rfl (by decide) ?_
          refine r_istore_n (ls1 := [_, _, _, _]) 73 dX7_plays_72 rfl (by decide) rfl rfl ?_
          refine r_iload_n 74 dX7_plays_73 rfl rfl ?_
          refine r_if_eq 82 77 dX7_plays_74 (by decide) rfl (fun q74 => ?_) (fun q74 => absurd q74 (by decide))
          refine r_iload_n 83 dX7_plays_82 rfl rfl ?_
          refine r_bret dX7_plays_83 rfl (by first | exact Or.inl rfl | exact Or.inr rfl) (by decide) (by decide) ?_
          first
          | exact absurd rfl q64
          | exact absurd q64 (by decide)
          | (rw [if_pos (by first | (rw [bI_no (fun z => z q37), hb01.resolve_right q56]) | (rw [bI_of q37, q56]))] at htl
             refine ⟨fun z => (by rw [htl] at z; cases z), fun X1 z => ?_⟩
             rw [htl] at z
             cases z
             obtain ⟨j1, y3, V3, jz3, jA3, jW3⟩ := jm
             exact ⟨rfl, Fr.tr hFL.zW j1, ⟨_, jz3, hopM_G hcl0 hpP (psM_len (X := ((f, n, nI m, jp, cl, lo, ps, cs, mk, qt, oc), P)) hpq) (by rw [upd_cl]; exact jA3)⟩, V3, jW3⟩)
          | (have ejb : jb = 0 ∨ jb = 1 := hb01
             rw [if_neg (by first | (rw [bI_no (fun z => z q37), q56]; decide) | (rw [bI_of q37, hb01.resolve_right q56]; decide))] at htl
             exact ⟨fun _ => ⟨rfl, hFL.zW, ⟨z, zV, hG⟩, V, hV⟩, fun X1 z => (by rw [htl] at z; cases z)⟩)
          | (have htl : tellM ((f, n, nI m, jp, cl, lo, ps, cs, mk, qt, oc), P) x y jb = none := by
               unfold tellM
               rcases hfd : (hpsG (f, n, nI m, jp, cl, lo, ps, cs, mk, qt, oc)).find? (isFT x y) with _ | q
               · rfl
               · exfalso
                 obtain ⟨j, hq, hj⟩ := (fI_find _ 0).2 q hfd
                 have hj : fI (isFT x y) (hopsN f (nI m) jp oc) 0 = nI (0 + j) := hj
                 rw [hj, Nat.zero_add] at q26
                 have hq : (hopsN f (nI m) jp oc)[j]? = some q := hq
                 have hjl : j < (hopsN f (nI m) jp oc).length := (List.getElem?_eq_some_iff.mp hq).1
                 exact nI_n6 (by omega) q26
             exact ⟨fun _ => ⟨rfl, hFL.zW, ⟨z, zV, hG⟩, V, hV⟩, fun X1 z => (by rw [htl] at z; cases z)⟩)
        · refine r_iconst (v := 1) 68 dX7_plays_67 rfl (by decide) ?_
          refine r_goto 72 dX7_plays_68 (by decide) ?_
          refine r_istore_n (ls1 := [_, _, _, _]) 73 dX7_plays_72 rfl (by decide) rfl rfl ?_
          refine r_iload_n 74 dX7_plays_73 rfl rfl ?_
          refine r_if_eq 82 77 dX7_plays_74 (by decide) rfl (fun q74 => absurd q74 (by decide)) (fun q74 => ?_)
          refine r_aload_n 78 dX7_plays_77 rfl rfl rfl ?_
          refine r_iload_n 79 dX7_plays_78 rfl rfl ?_
          refine r_callV0 82 dX7_plays_79 rfl (tX7_makeIt oV zV hA hV hb hs0 hl hq hgq hf hm hpq hPo) l_X7_156 mX7_makeIt rfl (by repeat (first | assumption | refine gs_eq ?_ | refine gs_ne (by omega) ?_ | exact is_of (by assumption) | refine gs_is ?_)) rfl (by decide) (Nat.le_of_ble_eq_true rfl) (by decide) (qN fun w3 jm => ?_)
          refine r_iload_n 83 dX7_plays_82 rfl rfl ?_
          refine r_bret dX7_plays_83 rfl (by first | exact Or.inl rfl | exact Or.inr rfl) (by decide) (by decide) ?_
          first
          | exact absurd rfl q64
          | exact absurd q64 (by decide)
          | (rw [if_pos (by first | (rw [bI_no (fun z => z q37), hb01.resolve_right q56]) | (rw [bI_of q37, q56]))] at htl
             refine ⟨fun z => (by rw [htl] at z; cases z), fun X1 z => ?_⟩
             rw [htl] at z
             cases z
             obtain ⟨j1, y3, V3, jz3, jA3, jW3⟩ := jm
             exact ⟨rfl, Fr.tr hFL.zW j1, ⟨_, jz3, hopM_G hcl0 hpP (psM_len (X := ((f, n, nI m, jp, cl, lo, ps, cs, mk, qt, oc), P)) hpq) (by rw [upd_cl]; exact jA3)⟩, V3, jW3⟩)
          | (have ejb : jb = 0 ∨ jb = 1 := hb01
             rw [if_neg (by first | (rw [bI_no (fun z => z q37), q56]; decide) | (rw [bI_of q37, hb01.resolve_right q56]; decide))] at htl
             exact ⟨fun _ => ⟨rfl, hFL.zW, ⟨z, zV, hG⟩, V, hV⟩, fun X1 z => (by rw [htl] at z; cases z)⟩)
          | (have htl : tellM ((f, n, nI m, jp, cl, lo, ps, cs, mk, qt, oc), P) x y jb = none := by
               unfold tellM
               rcases hfd : (hpsG (f, n, nI m, jp, cl, lo, ps, cs, mk, qt, oc)).find? (isFT x y) with _ | q
               · rfl
               · exfalso
                 obtain ⟨j, hq, hj⟩ := (fI_find _ 0).2 q hfd
                 have hj : fI (isFT x y) (hopsN f (nI m) jp oc) 0 = nI (0 + j) := hj
                 rw [hj, Nat.zero_add] at q26
                 have hq : (hopsN f (nI m) jp oc)[j]? = some q := hq
                 have hjl : j < (hopsN f (nI m) jp oc).length := (List.getElem?_eq_some_iff.mp hq).1
                 exact nI_n6 (by omega) q26
             exact ⟨fun _ => ⟨rfl, hFL.zW, ⟨z, zV, hG⟩, V, hV⟩, fun X1 z => (by rw [htl] at z; cases z)⟩)
    · refine r_iconst (v := 1) 41 dX7_plays_40 rfl (by decide) ?_
      refine r_goto 45 dX7_plays_41 (by decide) ?_
      refine r_aload_n 46 dX7_plays_45 rfl rfl rfl ?_
      refine r_getf 49 dX7_plays_46 rfl f_X7_54.r (by repeat (first | assumption | refine gs_eq ?_ | refine gs_ne (by omega) ?_ | exact is_of (by assumption) | refine gs_is ?_)) rfl ?_
      refine r_iconst (v := nI 3) 50 dX7_plays_49 rfl (by decide) ?_
      refine r_iload_n 51 dX7_plays_50 rfl rfl ?_
      refine r_imul 52 dX7_plays_51 rfl ?_
      rw [pk_mul]
      refine r_iconst (v := nI 1) 53 dX7_plays_52 rfl (by decide) ?_
      refine r_iadd 54 dX7_plays_53 rfl ?_
      rw [nI_add]
      refine r_iald 55 dX7_plays_54 rfl (3 * k + 1) (by repeat (first | assumption | refine gs_eq ?_ | refine gs_ne (by omega) ?_ | exact is_of (by assumption) | refine gs_is ?_)) rfl (by omega) (by decide) ?_
      rw [hjb]
      refine r_iconst (v := 1) 56 dX7_plays_55 rfl (by decide) ?_
      refine r_icmp_ne 63 59 dX7_plays_56 (by decide) rfl (fun q56 => ?_) (fun q56 => ?_)
      · refine r_iconst (v := 0) 64 dX7_plays_63 rfl (by decide) ?_
        refine r_icmp_ne 71 67 dX7_plays_64 (by decide) rfl (fun q64 => ?_) (fun q64 => ?_)
        · refine r_iconst (v := 0) 72 dX7_plays_71 rfl (by decide) ?_
          refine r_istore_n (ls1 := [_, _, _, _]) 73 dX7_plays_72 rfl (by decide) rfl rfl ?_
          refine r_iload_n 74 dX7_plays_73 rfl rfl ?_
          refine r_if_eq 82 77 dX7_plays_74 (by decide) rfl (fun q74 => ?_) (fun q74 => absurd q74 (by decide))
          refine r_iload_n 83 dX7_plays_82 rfl rfl ?_
          refine r_bret dX7_plays_83 rfl (by first | exact Or.inl rfl | exact Or.inr rfl) (by decide) (by decide) ?_
          first
          | exact absurd rfl q64
          | exact absurd q64 (by decide)
          | (rw [if_pos (by first | (rw [bI_no (fun z => z q37), hb01.resolve_right q56]) | (rw [bI_of q37, q56]))] at htl
             refine ⟨fun z => (by rw [htl] at z; cases z), fun X1 z => ?_⟩
             rw [htl] at z
             cases z
             obtain ⟨j1, y3, V3, jz3, jA3, jW3⟩ := jm
             exact ⟨rfl, Fr.tr hFL.zW j1, ⟨_, jz3, hopM_G hcl0 hpP (psM_len (X := ((f, n, nI m, jp, cl, lo, ps, cs, mk, qt, oc), P)) hpq) (by rw [upd_cl]; exact jA3)⟩, V3, jW3⟩)
          | (have ejb : jb = 0 ∨ jb = 1 := hb01
             rw [if_neg (by first | (rw [bI_no (fun z => z q37), q56]; decide) | (rw [bI_of q37, hb01.resolve_right q56]; decide))] at htl
             exact ⟨fun _ => ⟨rfl, hFL.zW, ⟨z, zV, hG⟩, V, hV⟩, fun X1 z => (by rw [htl] at z; cases z)⟩)
          | (have htl : tellM ((f, n, nI m, jp, cl, lo, ps, cs, mk, qt, oc), P) x y jb = none := by
               unfold tellM
               rcases hfd : (hpsG (f, n, nI m, jp, cl, lo, ps, cs, mk, qt, oc)).find? (isFT x y) with _ | q
               · rfl
               · exfalso
                 obtain ⟨j, hq, hj⟩ := (fI_find _ 0).2 q hfd
                 have hj : fI (isFT x y) (hopsN f (nI m) jp oc) 0 = nI (0 + j) := hj
                 rw [hj, Nat.zero_add] at q26
                 have hq : (hopsN f (nI m) jp oc)[j]? = some q := hq
                 have hjl : j < (hopsN f (nI m) jp oc).length := (List.getElem?_eq_some_iff.mp hq).1
                 exact nI_n6 (by omega) q26
             exact ⟨fun _ => ⟨rfl, hFL.zW, ⟨z, zV, hG⟩, V, hV⟩, fun X1 z => (by rw [htl] at z; cases z)⟩)
        · refine r_iconst (v := 1) 68 dX7_plays_67 rfl (by decide) ?_
          refine r_goto 72 dX7_plays_68 (by decide) ?_
          refine r_istore_n (ls1 := [_, _, _, _]) 73 dX7_plays_72 rfl (by decide) rfl rfl ?_
          refine r_iload_n 74 dX7_plays_73 rfl rfl ?_
          refine r_if_eq 82 77 dX7_plays_74 (by decide) rfl (fun q74 => absurd q74 (by decide)) (fun q74 => ?_)
          refine r_aload_n 78 dX7_plays_77 rfl rfl rfl ?_
          refine r_iload_n 79 dX7_plays_78 rfl rfl ?_
          refine r_callV0 82 dX7_plays_79 rfl (tX7_makeIt oV zV hA hV hb hs0 hl hq hgq hf hm hpq hPo) l_X7_156 mX7_makeIt rfl (by repeat (first | assumption | refine gs_eq ?_ | refine gs_ne (by omega) ?_ | exact is_of (by assumption) | refine gs_is ?_)) rfl (by decide) (Nat.le_of_ble_eq_true rfl) (by decide) (qN fun w3 jm => ?_)
          refine r_iload_n 83 dX7_plays_82 rfl rfl ?_
          refine r_bret dX7_plays_83 rfl (by first | exact Or.inl rfl | exact Or.inr rfl) (by decide) (by decide) ?_
          first
          | exact absurd rfl q64
          | exact absurd q64 (by decide)
          | (rw [if_pos (by first | (rw [bI_no (fun z => z q37), hb01.resolve_right q56]) | (rw [bI_of q37, q56]))] at htl
             refine ⟨fun z => (by rw [htl] at z; cases z), fun X1 z => ?_⟩
             rw [htl] at z
             cases z
             obtain ⟨j1, y3, V3, jz3, jA3, jW3⟩ := jm
             exact ⟨rfl, Fr.tr hFL.zW j1, ⟨_, jz3, hopM_G hcl0 hpP (psM_len (X := ((f, n, nI m, jp, cl, lo, ps, cs, mk, qt, oc), P)) hpq) (by rw [upd_cl]; exact jA3)⟩, V3, jW3⟩)
          | (have ejb : jb = 0 ∨ jb = 1 := hb01
             rw [if_neg (by first | (rw [bI_no (fun z => z q37), q56]; decide) | (rw [bI_of q37, hb01.resolve_right q56]; decide))] at htl
             exact ⟨fun _ => ⟨rfl, hFL.zW, ⟨z, zV, hG⟩, V, hV⟩, fun X1 z => (by rw [htl] at z; cases z)⟩)
          | (have htl : tellM ((f, n, nI m, jp, cl, lo, ps, cs, mk, qt, oc), P) x y jb = none := by
               unfold tellM
               rcases hfd : (hpsG (f, n, nI m, jp, cl, lo, ps, cs, mk, qt, oc)).find? (isFT x y) with _ | q
               · rfl
               · exfalso
                 obtain ⟨j, hq, hj⟩ := (fI_find _ 0).2 q hfd
                 have hj : fI (isFT x y) (hopsN f (nI m) jp oc) 0 = nI (0 + j) := hj
                 rw [hj, Nat.zero_add] at q26
                 have hq : (hopsN f (nI m) jp oc)[j]? = some q := hq
                 have hjl : j < (hopsN f (nI m) jp oc).length := (List.getElem?_eq_some_iff.mp hq).1
                 exact nI_n6 (by omega) q26
             exact ⟨fun _ => ⟨rfl, hFL.zW, ⟨z, zV, hG⟩, V, hV⟩, fun X1 z => (by rw [htl] at z; cases z)⟩)
      · refine r_iconst (v := 1) 60 dX7_plays_59 rfl (by decide) ?_
        refine r_goto 64 dX7_plays_60 (by decide) ?_
        refine r_icmp_ne 71 67 dX7_plays_64 (by decide) rfl (fun q64 => ?_) (fun q64 => ?_)
        · refine r_iconst (v := 0) 72 dX7_plays_71 rfl (by decide) ?_
          refine r_istore_n (ls1 := [_, _, _, _]) 73 dX7_plays_72 rfl (by decide) rfl rfl ?_
          refine r_iload_n 74 dX7_plays_73 rfl rfl ?_
          refine r_if_eq 82 77 dX7_plays_74 (by decide) rfl (fun q74 => ?_) (fun q74 => absurd q74 (by decide))
          refine r_iload_n 83 dX7_plays_82 rfl rfl ?_
          refine r_bret dX7_plays_83 rfl (by first | exact Or.inl rfl | exact Or.inr rfl) (by decide) (by decide) ?_
          first
          | exact absurd rfl q64
          | exact absurd q64 (by decide)
          | (rw [if_pos (by first | (rw [bI_no (fun z => z q37), hb01.resolve_right q56]) | (rw [bI_of q37, q56]))] at htl
             refine ⟨fun z => (by rw [htl] at z; cases z), fun X1 z => ?_⟩
             rw [htl] at z
             cases z
             obtain ⟨j1, y3, V3, jz3, jA3, jW3⟩ := jm
             exact ⟨rfl, Fr.tr hFL.zW j1, ⟨_, jz3, hopM_G hcl0 hpP (psM_len (X := ((f, n, nI m, jp, cl, lo, ps, cs, mk, qt, oc), P)) hpq) (by rw [upd_cl]; exact jA3)⟩, V3, jW3⟩)
          | (have ejb : jb = 0 ∨ jb = 1 := hb01
             rw [if_neg (by first | (rw [bI_no (fun z => z q37), q56]; decide) | (rw [bI_of q37, hb01.resolve_right q56]; decide))] at htl
             exact ⟨fun _ => ⟨rfl, hFL.zW, ⟨z, zV, hG⟩, V, hV⟩, fun X1 z => (by rw [htl] at z; cases z)⟩)
          | (have htl : tellM ((f, n, nI m, jp, cl, lo, ps, cs, mk, qt, oc), P) x y jb = none := by
               unfold tellM
               rcases hfd : (hpsG (f, n, nI m, jp, cl, lo, ps, cs, mk, qt, oc)).find? (isFT x y) with _ | q
               · rfl
               · exfalso
                 obtain ⟨j, hq, hj⟩ := (fI_find _ 0).2 q hfd
                 have hj : fI (isFT x y) (hopsN f (nI m) jp oc) 0 = nI (0 + j) := hj
                 rw [hj, Nat.zero_add] at q26
                 have hq : (hopsN f (nI m) jp oc)[j]? = some q := hq
                 have hjl : j < (hopsN f (nI m) jp oc).length := (List.getElem?_eq_some_iff.mp hq).1
                 exact nI_n6 (by omega) q26
             exact ⟨fun _ => ⟨rfl, hFL.zW, ⟨z, zV, hG⟩, V, hV⟩, fun X1 z => (by rw [htl] at z; cases z)⟩)
        · refine r_iconst (v := 1) 68 dX7_plays_67 rfl (by decide) ?_
          refine r_goto 72 dX7_plays_68 (by decide) ?_
          refine r_istore_n (ls1 := [_, _, _, _]) 73 dX7_plays_72 rfl (by decide) rfl rfl ?_
          refine r_iload_n 74 dX7_plays_73 rfl rfl ?_
          refine r_if_eq 82 77 dX7_plays_74 (by decide) rfl (fun q74 => absurd q74 (by decide)) (fun q74 => ?_)
          refine r_aload_n 78 dX7_plays_77 rfl rfl rfl ?_
          refine r_iload_n 79 dX7_plays_78 rfl rfl ?_
          refine r_callV0 82 dX7_plays_79 rfl (tX7_makeIt oV zV hA hV hb hs0 hl hq hgq hf hm hpq hPo) l_X7_156 mX7_makeIt rfl (by repeat (first | assumption | refine gs_eq ?_ | refine gs_ne (by omega) ?_ | exact is_of (by assumption) | refine gs_is ?_)) rfl (by decide) (Nat.le_of_ble_eq_true rfl) (by decide) (qN fun w3 jm => ?_)
          refine r_iload_n 83 dX7_plays_82 rfl rfl ?_
          refine r_bret dX7_plays_83 rfl (by first | exact Or.inl rfl | exact Or.inr rfl) (by decide) (by decide) ?_
          first
          | exact absurd rfl q64
          | exact absurd q64 (by decide)
          | (rw [if_pos (by first | (rw [bI_no (fun z => z q37), hb01.resolve_right q56]) | (rw [bI_of q37, q56]))] at htl
             refine ⟨fun z => (by rw [htl] at z; cases z), fun X1 z => ?_⟩
             rw [htl] at z
             cases z
             obtain ⟨j1, y3, V3, jz3, jA3, jW3⟩ := jm
             exact ⟨rfl, Fr.tr hFL.zW j1, ⟨_, jz3, hopM_G hcl0 hpP (psM_len (X := ((f, n, nI m, jp, cl, lo, ps, cs, mk, qt, oc), P)) hpq) (by rw [upd_cl]; exact jA3)⟩, V3, jW3⟩)
          | (have ejb : jb = 0 ∨ jb = 1 := hb01
             rw [if_neg (by first | (rw [bI_no (fun z => z q37), q56]; decide) | (rw [bI_of q37, hb01.resolve_right q56]; decide))] at htl
             exact ⟨fun _ => ⟨rfl, hFL.zW, ⟨z, zV, hG⟩, V, hV⟩, fun X1 z => (by rw [htl] at z; cases z)⟩)
          | (have htl : tellM ((f, n, nI m, jp, cl, lo, ps, cs, mk, qt, oc), P) x y jb = none := by
               unfold tellM
               rcases hfd : (hpsG (f, n, nI m, jp, cl, lo, ps, cs, mk, qt, oc)).find? (isFT x y) with _ | q
               · rfl
               · exfalso
                 obtain ⟨j, hq, hj⟩ := (fI_find _ 0).2 q hfd
                 have hj : fI (isFT x y) (hopsN f (nI m) jp oc) 0 = nI (0 + j) := hj
                 rw [hj, Nat.zero_add] at q26
                 have hq : (hopsN f (nI m) jp oc)[j]? = some q := hq
                 have hjl : j < (hopsN f (nI m) jp oc).length := (List.getElem?_eq_some_iff.mp hq).1
                 exact nI_n6 (by omega) q26
             exact ⟨fun _ => ⟨rfl, hFL.zW, ⟨z, zV, hG⟩, V, hV⟩, fun X1 z => (by rw [htl] at z; cases z)⟩)

theorem tX7_plays {Γ : CT} {w : PW} {pm ty rm sp wr : Int32} {rd : Nat → Int32} {X : MG} {k : Nat} (ho : w[43]? = some (oM pm ty rm sp wr)) (hX : ∃ z, w[44]? = some (aI 431 z) ∧ zG z X) (hW : ∃ W, isW w W) (hI : GI X) (hd : w[58]? = some (aI 60 rd)) (hk : k ≤ 19) (hb01 : rd (3 * k + 1) = 0 ∨ rd (3 * k + 1) = 1) : Cl Γ yX7_plays XX7_plays 9 0 0 [.ref 43, .int (nI k)] w (fun r w1 => (tellM X (rd (3 * k)) (rd (3 * k + 2)) (rd (3 * k + 1)) = none → rP 0 (zR w X) r w1) ∧ ∀ X1, tellM X (rd (3 * k)) (rd (3 * k + 2)) (rd (3 * k + 1)) = some X1 → rP 1 (zR w X1) r w1) := by
  obtain ⟨⟨f, n, mv, jp, cl, lo, ps, cs, mk, qt, oc⟩, P⟩ := X
  obtain ⟨m, hm, e, hc⟩ := side_ix hI.1.1
  have e : mv = nI m := e
  subst e
  obtain ⟨z, hz, hG⟩ := hX
  obtain ⟨W, hW⟩ := hW
  exact tX7_plays0 ho hz hG hW hI hm hd hk rfl rfl rfl hb01
theorem tX7_recordR {Γ : CT} {w : PW} {HM : List MG} {SM : Nat → Option MG} {pf : Nat → Int32} {pn : Nat} {z : Nat → Int32} {X : MG} {rm sp wr : Int32} (hk : isKp w HM SM pf pn) (ho : w[43]? = some (oM (nI HM.length) (nI pn) rm sp wr)) (hz : w[44]? = some (aI 431 z)) (hG : zG z X) : Cl Γ yX7_record XX7_record 0 0 0 [.ref 43] w (rN (fun w1 => Fr w w1 (fun q => q = 43 ∨ q = 45) ∧ isKp w1 (keepM HM X) SM pf pn ∧ ∃ sp1 wr1 pa, w1[43]? = some (oM (nI (keepM HM X).length) (nI pn) rm sp1 wr1) ∧ w1[45]? = some (aI 2586 pa) ∧ (∀ (i : Nat) (Y : MG), (keepM HM X)[i]? = some Y → zG (fun k => pa (431 * i + k)) Y) ∧ (keepM HM X).length ≤ 6)) := by
  obtain ⟨rm0, sp0, wr0, pa, sl, sv, rd, ho0, hpa, hH6, hpH, hsl, hsv, hpS, hpd, hpn, hrd⟩ := id hk
  refine Cl.mono (tX7_record0 ho hH6 hz hpa) (fun r w1 h => ⟨h.1, h.2.1, ?_⟩)
  obtain ⟨-, hF, d, pb, k1, k2, k3, k4, k5⟩ := h
  have hlen : (keepM HM X).length = d + 1 := by
    unfold keepM
    rw [List.length_append, k3]
    split
    · rw [List.length_drop]
      show HM.length - 1 + 1 = 5 + 1
      omega
    · rfl
  have h6 : (keepM HM X).length ≤ 6 := by rw [hlen, k3]; split <;> omega
  have hall : ∀ (i : Nat) (Y : MG), (keepM HM X)[i]? = some Y → zG (fun k => pb (431 * i + k)) Y := by
    intro i Y hi
    have hil : i < d + 1 := by rw [← hlen]; exact (List.getElem?_eq_some_iff.mp hi).1
    rcases Nat.lt_or_ge i d with h | h
    · unfold keepM at hi
      by_cases h6 : HM.length = 6
      · rw [if_pos h6] at hi k3
        rw [List.getElem?_append_left (by rw [List.length_drop]; omega), List.getElem?_drop] at hi
        refine (hpH _ Y hi).cg (fun k hk431 => ?_)
        show pb (431 * i + k) = pa (431 * (1 + i) + k)
        rw [k4 _ (by omega), if_pos h6]
        congr 1
        omega
      · rw [if_neg h6] at hi k3
        rw [List.getElem?_append_left (by omega)] at hi
        refine (hpH _ Y hi).cg (fun k hk431 => ?_)
        show pb (431 * i + k) = pa (431 * i + k)
        rw [k4 _ (by omega), if_neg h6, Nat.add_zero]
    · have e : i = d := by omega
      subst e
      have hY : Y = X := by
        unfold keepM at hi
        have hl2 : (if HM.length = 6 then HM.drop 1 else HM).length = i := by
          rw [k3]
          split
          · rw [List.length_drop]; omega
          · rfl
        rw [List.getElem?_append_right (by omega), hl2, Nat.sub_self] at hi
        exact (Option.some.inj hi).symm
      rw [hY]
      exact hG.cg (fun k hk431 => k5 k hk431)
  exact ⟨⟨rm, sp, wr, pb, sl, sv, rd, by rw [hlen]; exact k1, k2, h6, hall, hF.at (by decide) hsl, hF.at (by decide) hsv, hpS, hF.at (by decide) hpd, hpn, hF.at (by decide) hrd⟩, sp, wr, pb, by rw [hlen]; exact k1, k2, hall, h6⟩
set_option maxRecDepth 100000 in
theorem tX7_playAll {Γ : CT} {w : PW} {f n : Nat → Int32} {mv jp : Int32} {cl lo : Nat → Int32} {ps : List T3} {cs mk qt oc : Int32} {P : List P3} {HM : List MG} {SM : Nat → Option MG} {pf : Nat → Int32} {pn : Nat} (hr : isMD w ((f, n, mv, jp, cl, lo, ps, cs, mk, qt, oc), P) HM SM pf pn) (hI : GI ((f, n, mv, jp, cl, lo, ps, cs, mk, qt, oc), P)) : Cl Γ yX7_playAll XX7_playAll 10 0 0 [.ref 43] w (fun r w1 => if ffO pf pn pn 0 0 0 = -6 then (∃ Xn, GI Xn ∧ Xn.1 = (paO pf pn (pn + 1) 0 0 0 false (f, n, mv, jp, cl, lo, ps, cs, mk, qt, oc) 0).2 ∧ rP (paO pf pn (pn + 1) 0 0 0 false (f, n, mv, jp, cl, lo, ps, cs, mk, qt, oc) 0).1 (toMD w Xn (keepM HM ((f, n, mv, jp, cl, lo, ps, cs, mk, qt, oc), P)) SM pf 0) r w1) else rP (-3) (toMD w ((f, n, mv, jp, cl, lo, ps, cs, mk, qt, oc), P) HM SM pf pn) r w1) := by
  refine Cl.of (ls := [some (.ref 43), none]) rfl (by decide +kernel) (fun h => by cases h) (Nat.le_of_ble_eq_true rfl) rfl ?_
  obtain ⟨hk, ⟨z, hz, hG⟩, W, hW⟩ := id hr
  obtain ⟨rm, sp, wr, pa, sl, sv, rd, ho, hpa, hH6, hpH, hsl, hsv, hpS, hpd, hpn, hrd⟩ := id hk
  have hA : zA z f mv oc cs cl mk jp lo qt P := hG.1
  have hP61 := hG.2
  refine r_aload_n 1 dX7_playAll_0 rfl rfl rfl ?_
  refine r_callV0 4 dX7_playAll_1 rfl (tX7_readPad ho hpd hrd hpn) l_X7_221 mX7_readPad rfl (by repeat (first | assumption | refine gs_eq ?_ | refine gs_ne (by omega) ?_ | exact is_of (by assumption) | refine gs_is ?_)) rfl (by decide) (Nat.le_of_ble_eq_true rfl) (by decide) (qP fun w1 h1 => ?_)
  obtain ⟨hF1, r0, sp1, wr1, re, ho1, hrd1, hK⟩ := h1
  have hF1m := hF1.mono (S' := mS) (fun q a => by unfold mS; omega)
  have hk1 : isKp w1 HM SM pf pn := ⟨nI r0, sp1, wr1, pa, sl, sv, re, ho1, hF1.at (by decide) hpa, hH6, hpH, hF1.at (by decide) hsl, hF1.at (by decide) hsv, hpS, hF1.at (by decide) hpd, hpn, hrd1⟩
  have hz1 := hF1.at (h := 44) (by decide) hz
  have hW1 := hW.fr hF1 (fun q a b => by unfold wS at a; omega)
  refine r_bipush (v := (-6)) 6 dX7_playAll_4 rfl (by decide) ?_
  refine r_icmp_eq 12 9 dX7_playAll_6 (by decide) rfl (fun q6 => ?_) (fun q6 => ?_)
  · refine r_aload_n 13 dX7_playAll_12 rfl rfl rfl ?_
    refine r_callV0 16 dX7_playAll_13 rfl (tX7_recordR (X := ((f, n, mv, jp, cl, lo, ps, cs, mk, qt, oc), P)) hk1 ho1 hz1 hG) l_X7_76 mX7_record rfl (by repeat (first | assumption | refine gs_eq ?_ | refine gs_ne (by omega) ?_ | exact is_of (by assumption) | refine gs_is ?_)) rfl (by decide) (Nat.le_of_ble_eq_true rfl) (by decide) (qN fun w2 h2 => ?_)
    obtain ⟨hF2, hk2, sp2, wr2, pa2, ho2, hpa2, hpH2, hH62⟩ := h2
    have hff := q6
    obtain ⟨hr15, hB, hpa⟩ := hK hff
    have hpa := hpa (f, n, mv, jp, cl, lo, ps, cs, mk, qt, oc) 0
    have hz2 := hF2.at (h := 44) (by decide) hz1
    have hrd2 := hF2.at (h := 58) (by decide) hrd1
    have hsl2 := hF2.at (h := 46) (by decide) (hF1.at (by decide) hsl)
    have hsv2 := hF2.at (h := 47) (by decide) (hF1.at (by decide) hsv)
    have hpd2 := hF2.at (h := 48) (by decide) (hF1.at (by decide) hpd)
    have hpS2 := hpS
    have hW2 := hW1.fr hF2 (fun q a b => by unfold wS at a; omega)
    have loop : ∀ (mm i : Nat) (u : PW) (X : MG), i + mm = r0 → Fr w2 u zS → Fr w u mS → (∃ z, u[44]? = some (aI 431 z) ∧ zG z X) → (∃ W, isW u W) → GI X → plM re mm i X (nI i) = plM re r0 0 ((f, n, mv, jp, cl, lo, ps, cs, mk, qt, oc), P) 0 → Rn Γ XX7_playAll (rmO 10 0 0) none (FinM (fun r w1 => if ffO pf pn pn 0 0 0 = -6 then (∃ Xn, GI Xn ∧ Xn.1 = (paO pf pn (pn + 1) 0 0 0 false (f, n, mv, jp, cl, lo, ps, cs, mk, qt, oc) 0).2 ∧ rP (paO pf pn (pn + 1) 0 0 0 false (f, n, mv, jp, cl, lo, ps, cs, mk, qt, oc) 0).1 (toMD w Xn (keepM HM ((f, n, mv, jp, cl, lo, ps, cs, mk, qt, oc), P)) SM pf 0) r w1) else rP (-3) (toMD w ((f, n, mv, jp, cl, lo, ps, cs, mk, qt, oc), P) HM SM pf pn) r w1) 0 0) 0 0 u 18 [some (.ref 43), some (.int (nI i))] [] := by
      intro mm
      induction mm with
      | zero =>
        intro i u X hi hU hFw hX hWu hIX hE
        obtain ⟨zz, hzz, hGG⟩ := hX
        obtain ⟨WW, hWW⟩ := hWu
        have ho3 := hU.at (h := 43) (by unfold zS wS; decide) ho2
        refine r_iload_n 19 dX7_playAll_18 rfl rfl ?_
        refine r_aload_n 20 dX7_playAll_19 rfl rfl rfl ?_
        refine r_getf 23 dX7_playAll_20 rfl f_X7_212.r (by repeat (first | assumption | refine gs_eq ?_ | refine gs_ne (by omega) ?_ | exact is_of (by assumption) | refine gs_is ?_)) rfl ?_
        refine r_icmp_ge 40 26 dX7_playAll_23 (by decide) rfl (fun q23 => ?_) (fun q23 => absurd q23 (fun z => z (nI_le (by omega) (by omega))))
        refine r_aload_n 41 dX7_playAll_40 rfl rfl rfl ?_
        refine r_iconst (v := 0) 42 dX7_playAll_41 rfl (by decide) ?_
        refine r_putf (fs1 := [_, _, _, _, _, _, _, _, _, _, _, _, _, _, _, _, _, _, _, _]) 45 dX7_playAll_42 rfl f_X7_174 (by repeat (first | assumption | refine gs_eq ?_ | refine gs_ne (by omega) ?_ | exact is_of (by assumption) | refine gs_is ?_)) rfl (by simp only [List.length_cons, List.length_nil]; omega) rfl ?_
        refine r_iload_n 46 dX7_playAll_45 rfl rfl ?_
        refine r_iret dX7_playAll_46 rfl (by decide) (by decide) ?_
        rw [if_pos hff]
        refine ⟨(plM re r0 0 ((f, n, mv, jp, cl, lo, ps, cs, mk, qt, oc), P) 0).2, plM_GI r0 0 _ _ hI, ?_, ?_⟩
        · rw [hpa, plM_K r0 0 ((f, n, mv, jp, cl, lo, ps, cs, mk, qt, oc), P) 0]
        · rw [hpa, plM_K r0 0 ((f, n, mv, jp, cl, lo, ps, cs, mk, qt, oc), P) 0, ← hE]
          unfold plM
          exact ⟨rfl, Fr.tr hFw (Fr.st (by unfold mS; decide)), ⟨nI r0, sp2, wr2, pa2, sl, sv, re, (by repeat (first | assumption | refine gs_eq ?_ | refine gs_ne (by omega) ?_ | exact is_of (by assumption) | refine gs_is ?_)), gs_ne (by decide) (hU.at (by unfold zS wS; decide) hpa2), hH62, hpH2, gs_ne (by decide) (hU.at (by unfold zS wS; decide) hsl2), gs_ne (by decide) (hU.at (by unfold zS wS; decide) hsv2), hpS2, gs_ne (by decide) (hU.at (by unfold zS wS; decide) hpd2), by decide, gs_ne (by decide) (hU.at (by unfold zS wS; decide) hrd2)⟩, ⟨zz, (by repeat (first | assumption | refine gs_eq ?_ | refine gs_ne (by omega) ?_ | exact is_of (by assumption) | refine gs_is ?_)), hGG⟩, WW, hWW.fr (Fr.st (S := fun q => q = 43) rfl) (fun q a b => by unfold wS at a; omega)⟩
      | succ mm ih =>
        intro i u X hi hU hFw hX hWu hIX hE
        obtain ⟨zz, hzz, hGG⟩ := id hX
        obtain ⟨WW, hWW⟩ := id hWu
        have ho3 := hU.at (h := 43) (by unfold zS wS; decide) ho2
        have hd3 := hU.at (h := 58) (by unfold zS wS; decide) hrd2
        rw [plM] at hE
        refine r_iload_n 19 dX7_playAll_18 rfl rfl ?_
        refine r_aload_n 20 dX7_playAll_19 rfl rfl rfl ?_
        refine r_getf 23 dX7_playAll_20 rfl f_X7_212.r (by repeat (first | assumption | refine gs_eq ?_ | refine gs_ne (by omega) ?_ | exact is_of (by assumption) | refine gs_is ?_)) rfl ?_
        refine r_icmp_ge 40 26 dX7_playAll_23 (by decide) rfl (fun q23 => absurd q23 (nI_ge (by omega) (by omega))) (fun q23 => ?_)
        refine r_aload_n 27 dX7_playAll_26 rfl rfl rfl ?_
        refine r_iload_n 28 dX7_playAll_27 rfl rfl ?_
        refine r_callV0 31 dX7_playAll_28 rfl (tX7_plays ho3 hX hWu hIX hd3 (by omega) (hB i (by omega))) l_X7_224 mX7_plays rfl (by repeat (first | assumption | refine gs_eq ?_ | refine gs_ne (by omega) ?_ | exact is_of (by assumption) | refine gs_is ?_)) rfl (by decide) (Nat.le_of_ble_eq_true rfl) (by decide) (qTM (fun htl w3 h3 => ?_) (fun X1 htl w3 h3 => ?_))
        · obtain ⟨hF3, ⟨zz, hzz, hGG⟩, WW, hWW⟩ := h3
          have hU := hU.tr hF3
          have hFw := hFw.tr hF3.mZ
          have ho3 := hU.at (h := 43) (by unfold zS wS; decide) ho2
          rw [htl] at hE
          refine r_if_eq 40 34 dX7_playAll_31 (by decide) rfl (fun q31 => ?_) (fun q31 => absurd q31 (fun z => z rfl))
          refine r_aload_n 41 dX7_playAll_40 rfl rfl rfl ?_
          refine r_iconst (v := 0) 42 dX7_playAll_41 rfl (by decide) ?_
          refine r_putf (fs1 := [_, _, _, _, _, _, _, _, _, _, _, _, _, _, _, _, _, _, _, _]) 45 dX7_playAll_42 rfl f_X7_174 (by repeat (first | assumption | refine gs_eq ?_ | refine gs_ne (by omega) ?_ | exact is_of (by assumption) | refine gs_is ?_)) rfl (by simp only [List.length_cons, List.length_nil]; omega) rfl ?_
          refine r_iload_n 46 dX7_playAll_45 rfl rfl ?_
          refine r_iret dX7_playAll_46 rfl (by decide) (by decide) ?_
          rw [if_pos hff]
          refine ⟨(plM re r0 0 ((f, n, mv, jp, cl, lo, ps, cs, mk, qt, oc), P) 0).2, plM_GI r0 0 _ _ hI, ?_, ?_⟩
          · rw [hpa, plM_K r0 0 ((f, n, mv, jp, cl, lo, ps, cs, mk, qt, oc), P) 0]
          · rw [hpa, plM_K r0 0 ((f, n, mv, jp, cl, lo, ps, cs, mk, qt, oc), P) 0, ← hE]
            skip
            exact ⟨rfl, Fr.tr hFw (Fr.st (by unfold mS; decide)), ⟨nI r0, sp2, wr2, pa2, sl, sv, re, (by repeat (first | assumption | refine gs_eq ?_ | refine gs_ne (by omega) ?_ | exact is_of (by assumption) | refine gs_is ?_)), gs_ne (by decide) (hU.at (by unfold zS wS; decide) hpa2), hH62, hpH2, gs_ne (by decide) (hU.at (by unfold zS wS; decide) hsl2), gs_ne (by decide) (hU.at (by unfold zS wS; decide) hsv2), hpS2, gs_ne (by decide) (hU.at (by unfold zS wS; decide) hpd2), by decide, gs_ne (by decide) (hU.at (by unfold zS wS; decide) hrd2)⟩, ⟨zz, (by repeat (first | assumption | refine gs_eq ?_ | refine gs_ne (by omega) ?_ | exact is_of (by assumption) | refine gs_is ?_)), hGG⟩, WW, hWW.fr (Fr.st (S := fun q => q = 43) rfl) (fun q a b => by unfold wS at a; omega)⟩
        · obtain ⟨hF3, ⟨zz, hzz, hGG⟩, WW, hWW⟩ := h3
          have hU := hU.tr hF3
          have hFw := hFw.tr hF3.mZ
          have ho3 := hU.at (h := 43) (by unfold zS wS; decide) ho2
          rw [htl] at hE
          refine r_if_eq 40 34 dX7_playAll_31 (by decide) rfl (fun q31 => absurd q31 (by decide)) (fun q31 => ?_)
          refine r_iinc (ls1 := [_, _]) 37 dX7_playAll_34 rfl (by decide) rfl rfl (nI_1 i) rfl ?_
          refine r_goto 18 dX7_playAll_37 (by decide) ?_
          exact ih (i + 1) w3 X1 (by omega) hU hFw ⟨zz, hzz, hGG⟩ ⟨WW, hWW⟩ (tellM_GI hIX htl) (by rw [← nI_1]; exact hE)

    refine r_iconst (v := nI 0) 17 dX7_playAll_16 rfl (by decide) ?_
    refine r_istore_n (ls1 := [_, _]) 18 dX7_playAll_17 rfl (by decide) rfl rfl ?_
    exact loop r0 0 w2 _ (by omega) Fr.rf (hF1m.tr hF2.mR) ⟨z, hz2, hG⟩ ⟨W, hW2⟩ hI rfl
  · refine r_bipush (v := (-3)) 11 dX7_playAll_9 rfl (by decide) ?_
    refine r_iret dX7_playAll_11 rfl (by decide) (by decide) ?_
    rw [if_neg q6]
    exact ⟨rfl, hF1m, hk1, ⟨z, hz1, hG⟩, W, hW1⟩

