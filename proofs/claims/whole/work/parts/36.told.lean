/-! ===== hops that are read; the maker of the class ===== -/
def okG (G : GS) : Prop := (G.2.2.1 = 0 ∨ G.2.2.1 = 1) ∧ 1 ≤ G.2.2.2.2.2.2.1.length ∧ G.2.2.2.2.2.2.1.length ≤ 61 ∧ G.2.2.2.2.2.2.2.2.2.1 = nI (G.2.2.2.2.2.2.1.length - 1) ∧ (gsO G = 0 → G.2.2.2.2.2.2.1.length ≤ 60)
def hopX (G : GS) (q : HP) (sec : Int32) : GS := hopG G G.2.2.1.toNatClampNeg q sec
def hpsG (G : GS) : List HP := hopsN G.1 G.2.2.1 G.2.2.2.1 (gsO G)
def tellO (G : GS) (x y jb : Int32) : Option GS := match (hpsG G).find? (isFT x y) with
  | none => none
  | some q => if bI (decide (¬ q.2.2.2.2 = -6)) = jb then some (hopX G q 0) else none
theorem fI_find {p : HP → Bool} : ∀ (l : List HP) (k : Nat), (l.find? p = none → fI p l k = -6) ∧ ∀ q, l.find? p = some q → ∃ j, l[j]? = some q ∧ fI p l k = nI (k + j)
  | [], k => ⟨fun _ => rfl, fun q h => by simp at h⟩
  | a :: t, k => by
    have ih := fI_find (p := p) t (k + 1)
    unfold fI
    by_cases h : p a = true
    · rw [List.find?_cons_of_pos h, if_pos h]
      exact ⟨fun z => (by cases z), fun q z => ⟨0, by cases z; rfl, rfl⟩⟩
    · rw [List.find?_cons_of_neg h, if_neg h]
      refine ⟨ih.1, fun q z => ?_⟩
      obtain ⟨j, h1, h2⟩ := ih.2 q z
      exact ⟨j + 1, by simpa using h1, by rw [h2]; congr 1; omega⟩
theorem hopsN_z {f : Nat → Int32} {mv jp oc : Int32} {q : HP} (h : q ∈ hopsN f mv jp oc) : oc = 0 := by
  unfold hopsN at h
  split at h
  · assumption
  · simp at h
theorem okG.ps {f n : Nat → Int32} {mv jp : Int32} {cl lo : Nat → Int32} {ps : List T3} {cs mk qt oc : Int32} (k : okG (f, n, mv, jp, cl, lo, ps, cs, mk, qt, oc)) : ∀ q ∈ hopsN f mv jp oc, qtB f q = true → ps.length < 61 := fun q hq _ => by
  have h1 : ps.length ≤ 60 := k.2.2.2.2 (hopsN_z hq)
  omega
theorem judO_z {f : Nat → Int32} {mv : Int32} {ps : List T3} {qt : Int32} (h : judO f mv ps qt = 0) : ¬ 60 ≤ qt := by
  unfold judO at h
  intro h1
  split at h
  · rw [if_pos (Or.inr h1)] at h
    exact absurd h (by decide)
  · unfold wonO at h
    split at h <;> exact absurd h (by decide)
theorem wonO_nz {x : Int32} : ¬ wonO x = 0 := by
  unfold wonO
  split <;> decide
theorem okG.hop {G : GS} {q : HP} {sec : Int32} (k : okG G) (h0 : gsO G = 0) : okG (hopX G q sec) := by
  obtain ⟨f, n, mv, jp, cl, lo, ps, cs, mk, qt, oc⟩ := G
  obtain ⟨k1, k2, k3, k4, k5⟩ := k
  have h60 : ps.length ≤ 60 := k5 h0
  obtain ⟨m, hm, e, hc⟩ := side_ix k1
  have e : mv = nI m := e
  have hc : mv.toNatClampNeg = m := hc
  subst e
  have k4 : qt = nI (ps.length - 1) := k4
  unfold hopX
  show okG (hopG (f, n, nI m, jp, cl, lo, ps, cs, mk, qt, oc) (nI m).toNatClampNeg q sec)
  rw [hc]
  unfold hopG
  split
  · refine ⟨mkM_01 (side_01 hm), ?_, ?_, ?_, fun h => ?_⟩
    · show 1 ≤ (psO f (nI m) ps q).length
      unfold psO
      rw [List.length_append]
      exact Nat.le_add_left _ _
    · show (psO f (nI m) ps q).length ≤ 61
      unfold psO
      rw [List.length_append]
      split
      · show ps.length + 1 ≤ 61; omega
      · show 0 + 1 ≤ 61; decide
    · show qtO f qt q = nI ((psO f (nI m) ps q).length - 1)
      unfold qtO psO
      split
      · rw [k4, nI_1, List.length_append]
        congr 1
        show ps.length - 1 + 1 = ps.length + 1 - 1
        have h9 : 1 ≤ ps.length := k2
        omega
      · rfl
    · have h1 := judO_z h
      show (psO f (nI m) ps q).length ≤ 60
      have h2 : qtO f qt q = nI ((psO f (nI m) ps q).length - 1) := by
        unfold qtO psO
        split
        · rw [k4, nI_1, List.length_append]
          congr 1
          show ps.length - 1 + 1 = ps.length + 1 - 1
          have h9 : 1 ≤ ps.length := k2
          omega
        · rfl
      rw [show ((60 : Int32)) = nI 60 from rfl] at h1
      have h3 : qtO f qt q = nI ((psO f (nI m) ps q).length - 1) := h2
      rcases Nat.lt_or_ge 60 (psO f (nI m) ps q).length with h4 | h4
      · refine absurd ?_ h1
        show nI 60 ≤ qtO f qt q
        rw [h3]
        refine nI_le (by omega) ?_
        have : (psO f (nI m) ps q).length ≤ 61 := by
          unfold psO
          rw [List.length_append]
          split
          · show ps.length + 1 ≤ 61; omega
          · show 0 + 1 ≤ 61; decide
        omega
      · exact h4
  · exact ⟨k1, k2, k3, k4, fun h => absurd h wonO_nz⟩
theorem okG.told {G G1 : GS} {x y jb : Int32} (k : okG G) (h : tellO G x y jb = some G1) : okG G1 := by
  unfold tellO at h
  split at h
  · cases h
  · next q hq =>
    split at h
    · cases h
      exact k.hop (hopsN_z (List.mem_of_find?_eq_some hq))
    · cases h
theorem nI_bI {b : Bool} : nI (if b then 1 else 0) = bI b := by cases b <;> rfl
set_option maxRecDepth 100000 in
theorem tX6_makeToldHop {Γ : CT} {w : PW} {f n : Nat → Int32} {m : Nat} {jp : Int32} {cl lo : Nat → Int32} {ps : List T3} {cs mk qt oc : Int32} {H : List GS} {S : Nat → Option GS} {pf : Nat → Int32} {pn : Nat} {x y : Int32} {b : Bool} (hr : isRD w (f, n, nI m, jp, cl, lo, ps, cs, mk, qt, oc) H S pf pn) (hm : m < 2) (hok : okG (f, n, nI m, jp, cl, lo, ps, cs, mk, qt, oc)) : Cl Γ yX6_makeToldHop XX6_makeToldHop 6 0 0 [.ref 0, .int x, .int y, .int (bI b)] w (fun r w1 => (tellO (f, n, nI m, jp, cl, lo, ps, cs, mk, qt, oc) x y (bI b) = none → rP 0 (toRD w (f, n, nI m, jp, cl, lo, ps, cs, mk, qt, oc) H S pf pn) r w1) ∧ ∀ G1, tellO (f, n, nI m, jp, cl, lo, ps, cs, mk, qt, oc) x y (bI b) = some G1 → rP 1 (toRD w G1 H S pf pn) r w1) := by
  refine Cl.of (ls := [some (.ref 0), some (.int x), some (.int y), some (.int (bI b)), none, none]) rfl (by decide +kernel) (fun h => by cases h) (Nat.le_of_ble_eq_true rfl) rfl ?_
  obtain ⟨⟨r0, r13, r14, r15⟩, rg, ⟨st, sl, r8, r9, r10, rH, rp, rS, rk⟩, rd, rs⟩ := id hr
  have rG : isGm w 1 f n (nI m) jp cl lo ps cs mk qt oc := rg
  obtain ⟨g1, gb, g5, g6, gl, pfG, gO, g7⟩ := id rG
  have gb0 := gb.1
  have rd0 := rd.1
  have hps := hok.ps
  refine r_aload_n 1 dX6_makeToldHop_0 rfl rfl rfl ?_
  refine r_callV0 4 dX6_makeToldHop_1 rfl (tX6_hopsOfNow hr (side_01 hm)) l_X6_92 mX6_hopsOfNow rfl (by repeat (first | assumption | exact isBd.o (by assumption) | exact isHp.o (by assumption) | exact isGm.o (by assumption) | exact isPd.o (by assumption) | refine gs_eq ?_ | refine gs_ne (by omega) ?_ | exact is_of (by assumption) | refine gs_is ?_)) rfl (by decide) (Nat.le_of_ble_eq_true rfl) (by decide) (qRP fun w1 hk => ?_)
  obtain ⟨⟨hr1, hM1⟩, hF1, hsc1, hh1, hb1⟩ : toRD w (f, n, nI m, jp, cl, lo, ps, cs, mk, qt, oc) H S pf pn w1 ∧ Fr w w1 (fun q => 16 ≤ q ∧ q < 43) ∧ isSc w1 ∧ isHp w1 37 (hopsN f (nI m) jp oc) ∧ isBd w1 34 f n (nI m) jp := ⟨hn_rd hr hk, hk⟩
  obtain ⟨⟨r01, r131, r141, r151⟩, rg1, ⟨st1, sl1, r81, r91, r101, rH1, rp1, rS1, rk1⟩, rd1, rs1⟩ := id hr1
  have rG1 : isGm w1 1 f n (nI m) jp cl lo ps cs mk qt oc := rg1
  obtain ⟨g11, gb1, g51, g61, gl1, pfG1, gO1, g71⟩ := id rG1
  have gb01 := gb1.1
  have rd01 := rd1.1
  have hh10 := hh1.o
  refine r_astore (ls1 := [_, _, _, _, _, _]) 6 dX6_makeToldHop_4 rfl (by decide) rfl rfl rfl ?_
  refine r_aload 8 dX6_makeToldHop_6 rfl rfl rfl ?_
  refine r_iload_n 9 dX6_makeToldHop_8 rfl rfl ?_
  refine r_iload_n 10 dX6_makeToldHop_9 rfl rfl ?_
  refine r_callV0 13 dX6_makeToldHop_10 rfl (tX3_find hh1) l_X6_108 mX3_find rfl (by repeat (first | assumption | exact isBd.o (by assumption) | exact isHp.o (by assumption) | exact isGm.o (by assumption) | exact isPd.o (by assumption) | refine gs_eq ?_ | refine gs_ne (by omega) ?_ | exact is_of (by assumption) | refine gs_is ?_)) rfl (by decide) (Nat.le_of_ble_eq_true rfl) (by decide) (qI ?_)
  refine r_istore (ls1 := [_, _, _, _, _, _]) 15 dX6_makeToldHop_13 rfl (by decide) rfl rfl ?_
  refine r_iload 17 dX6_makeToldHop_15 rfl rfl ?_
  refine r_bipush (v := (-6)) 19 dX6_makeToldHop_17 rfl (by decide) ?_
  refine r_icmp_eq 43 22 dX6_makeToldHop_19 (by decide) rfl (fun q19 => ?_) (fun q19 => ?_)
  · refine r_iconst (v := 0) 44 dX6_makeToldHop_43 rfl (by decide) ?_
    refine r_bret dX6_makeToldHop_44 rfl (by first | exact Or.inl rfl | exact Or.inr rfl) (by decide) (by decide) ?_
    first
    | (rw [if_neg (by first | (rw [bI_no (fun z => z q31)]; exact fun z => q40 z) | (rw [bI_of q31]; exact fun z => q40 z))] at htl
       exact ⟨fun _ => ⟨rfl, hr1, hM1⟩, fun G1 z => (by rw [htl] at z; cases z)⟩)
    | (have htl : tellO (f, n, nI m, jp, cl, lo, ps, cs, mk, qt, oc) x y (bI b) = none := by
         unfold tellO
         rcases hfd : (hpsG (f, n, nI m, jp, cl, lo, ps, cs, mk, qt, oc)).find? (isFT x y) with _ | q
         · rfl
         · exfalso
           obtain ⟨j, hq, hj⟩ := (fI_find _ 0).2 q hfd
           have hj : fI (isFT x y) (hopsN f (nI m) jp oc) 0 = nI (0 + j) := hj
           rw [hj, Nat.zero_add] at q19
           have hjl : j < (hopsN f (nI m) jp oc).length := (List.getElem?_eq_some_iff.mp hq).1
           exact nI_n6 (by have := hh1.1; omega) q19
       exact ⟨fun _ => ⟨rfl, hr1, hM1⟩, fun G1 z => (by rw [htl] at z; cases z)⟩)
  · rcases hfd : (hpsG (f, n, nI m, jp, cl, lo, ps, cs, mk, qt, oc)).find? (isFT x y) with _ | q
    · exact absurd ((fI_find _ 0).1 hfd) q19
    obtain ⟨j, hq, hj⟩ := (fI_find _ 0).2 q hfd
    have hq : (hopsN f (nI m) jp oc)[j]? = some q := hq
    have hj : fI (isFT x y) (hopsN f (nI m) jp oc) 0 = nI (0 + j) := hj
    have hjl : j < (hopsN f (nI m) jp oc).length := (List.getElem?_eq_some_iff.mp hq).1
    rw [Nat.zero_add] at hj
    rw [hj]
    obtain ⟨hfr, hto, hsd⟩ := hopsN_to hq
    have htl : tellO (f, n, nI m, jp, cl, lo, ps, cs, mk, qt, oc) x y (bI b) = if bI (decide (¬ q.2.2.2.2 = -6)) = bI b then some (hopG (f, n, nI m, jp, cl, lo, ps, cs, mk, qt, oc) m q 0) else none := by
      unfold tellO
      rw [hfd]
      show (if bI (decide (¬ q.2.2.2.2 = -6)) = bI b then some (hopG (f, n, nI m, jp, cl, lo, ps, cs, mk, qt, oc) (nI m).toNatClampNeg q 0) else none) = _
      rw [nI_clamp (by omega)]
    refine r_aload 24 dX6_makeToldHop_22 rfl rfl rfl ?_
    refine r_iload 26 dX6_makeToldHop_24 rfl rfl ?_
    refine r_callV0 29 dX6_makeToldHop_26 rfl (tX3_taken hh1 hq) l_X6_162 mX3_taken rfl (by repeat (first | assumption | exact isBd.o (by assumption) | exact isHp.o (by assumption) | exact isGm.o (by assumption) | exact isPd.o (by assumption) | refine gs_eq ?_ | refine gs_ne (by omega) ?_ | exact is_of (by assumption) | refine gs_is ?_)) rfl (by decide) (Nat.le_of_ble_eq_true rfl) (by decide) (qI ?_)
    refine r_bipush (v := (-6)) 31 dX6_makeToldHop_29 rfl (by decide) ?_
    refine r_icmp_eq 38 34 dX6_makeToldHop_31 (by decide) rfl (fun q31 => ?_) (fun q31 => ?_)
    · refine r_iconst (v := 0) 39 dX6_makeToldHop_38 rfl (by decide) ?_
      refine r_iload_n 40 dX6_makeToldHop_39 rfl rfl ?_
      refine r_icmp_eq 45 43 dX6_makeToldHop_40 (by decide) rfl (fun q40 => ?_) (fun q40 => ?_)
      · refine r_aload_n 46 dX6_makeToldHop_45 rfl rfl rfl ?_
        refine r_getf 49 dX6_makeToldHop_46 rfl f_X6_10.r (by repeat (first | assumption | exact isBd.o (by assumption) | exact isHp.o (by assumption) | exact isGm.o (by assumption) | exact isPd.o (by assumption) | refine gs_eq ?_ | refine gs_ne (by omega) ?_ | exact is_of (by assumption) | refine gs_is ?_)) rfl ?_
        refine r_aload 51 dX6_makeToldHop_49 rfl rfl rfl ?_
        refine r_iload 53 dX6_makeToldHop_51 rfl rfl ?_
        refine r_iconst (v := 0) 54 dX6_makeToldHop_53 rfl (by decide) ?_
        refine r_callV0 57 dX6_makeToldHop_54 rfl (tMake rG1 hm hh1 hq hto hfr (hps q (List.mem_of_getElem? hq))) l_X6_101 mX1_makeHop rfl (by repeat (first | assumption | exact isBd.o (by assumption) | exact isHp.o (by assumption) | exact isGm.o (by assumption) | exact isPd.o (by assumption) | refine gs_eq ?_ | refine gs_ne (by omega) ?_ | exact is_of (by assumption) | refine gs_is ?_)) rfl (by decide) (Nat.le_of_ble_eq_true rfl) (by decide) (qN fun w3 hk3 => ?_)
        refine r_iconst (v := 1) 58 dX6_makeToldHop_57 rfl (by decide) ?_
        refine r_bret dX6_makeToldHop_58 rfl (by first | exact Or.inl rfl | exact Or.inr rfl) (by decide) (by decide) ?_
        rw [if_pos (by first | (rw [bI_no (fun z => z q31)]; exact q40) | (rw [bI_of q31]; exact q40))] at htl
        refine ⟨fun z => (by rw [htl] at z; cases z), fun G1 z => ?_⟩
        rw [htl] at z
        cases z
        exact ⟨rfl, toRD.tr ⟨hr1, hM1⟩ (hr1.game hk3.1 hk3.2)⟩
      · refine r_iconst (v := 0) 44 dX6_makeToldHop_43 rfl (by decide) ?_
        refine r_bret dX6_makeToldHop_44 rfl (by first | exact Or.inl rfl | exact Or.inr rfl) (by decide) (by decide) ?_
        first
        | (rw [if_neg (by first | (rw [bI_no (fun z => z q31)]; exact fun z => q40 z) | (rw [bI_of q31]; exact fun z => q40 z))] at htl
           exact ⟨fun _ => ⟨rfl, hr1, hM1⟩, fun G1 z => (by rw [htl] at z; cases z)⟩)
        | (have htl : tellO (f, n, nI m, jp, cl, lo, ps, cs, mk, qt, oc) x y (bI b) = none := by
             unfold tellO
             rcases hfd : (hpsG (f, n, nI m, jp, cl, lo, ps, cs, mk, qt, oc)).find? (isFT x y) with _ | q
             · rfl
             · exfalso
               obtain ⟨j, hq, hj⟩ := (fI_find _ 0).2 q hfd
               have hj : fI (isFT x y) (hopsN f (nI m) jp oc) 0 = nI (0 + j) := hj
               rw [hj, Nat.zero_add] at q19
               have hjl : j < (hopsN f (nI m) jp oc).length := (List.getElem?_eq_some_iff.mp hq).1
               exact nI_n6 (by have := hh1.1; omega) q19
           exact ⟨fun _ => ⟨rfl, hr1, hM1⟩, fun G1 z => (by rw [htl] at z; cases z)⟩)
    · refine r_iconst (v := 1) 35 dX6_makeToldHop_34 rfl (by decide) ?_
      refine r_goto 39 dX6_makeToldHop_35 (by decide) ?_
      refine r_iload_n 40 dX6_makeToldHop_39 rfl rfl ?_
      refine r_icmp_eq 45 43 dX6_makeToldHop_40 (by decide) rfl (fun q40 => ?_) (fun q40 => ?_)
      · refine r_aload_n 46 dX6_makeToldHop_45 rfl rfl rfl ?_
        refine r_getf 49 dX6_makeToldHop_46 rfl f_X6_10.r (by repeat (first | assumption | exact isBd.o (by assumption) | exact isHp.o (by assumption) | exact isGm.o (by assumption) | exact isPd.o (by assumption) | refine gs_eq ?_ | refine gs_ne (by omega) ?_ | exact is_of (by assumption) | refine gs_is ?_)) rfl ?_
        refine r_aload 51 dX6_makeToldHop_49 rfl rfl rfl ?_
        refine r_iload 53 dX6_makeToldHop_51 rfl rfl ?_
        refine r_iconst (v := 0) 54 dX6_makeToldHop_53 rfl (by decide) ?_
        refine r_callV0 57 dX6_makeToldHop_54 rfl (tMake rG1 hm hh1 hq hto hfr (hps q (List.mem_of_getElem? hq))) l_X6_101 mX1_makeHop rfl (by repeat (first | assumption | exact isBd.o (by assumption) | exact isHp.o (by assumption) | exact isGm.o (by assumption) | exact isPd.o (by assumption) | refine gs_eq ?_ | refine gs_ne (by omega) ?_ | exact is_of (by assumption) | refine gs_is ?_)) rfl (by decide) (Nat.le_of_ble_eq_true rfl) (by decide) (qN fun w3 hk3 => ?_)
        refine r_iconst (v := 1) 58 dX6_makeToldHop_57 rfl (by decide) ?_
        refine r_bret dX6_makeToldHop_58 rfl (by first | exact Or.inl rfl | exact Or.inr rfl) (by decide) (by decide) ?_
        rw [if_pos (by first | (rw [bI_no (fun z => z q31)]; exact q40) | (rw [bI_of q31]; exact q40))] at htl
        refine ⟨fun z => (by rw [htl] at z; cases z), fun G1 z => ?_⟩
        rw [htl] at z
        cases z
        exact ⟨rfl, toRD.tr ⟨hr1, hM1⟩ (hr1.game hk3.1 hk3.2)⟩
      · refine r_iconst (v := 0) 44 dX6_makeToldHop_43 rfl (by decide) ?_
        refine r_bret dX6_makeToldHop_44 rfl (by first | exact Or.inl rfl | exact Or.inr rfl) (by decide) (by decide) ?_
        first
        | (rw [if_neg (by first | (rw [bI_no (fun z => z q31)]; exact fun z => q40 z) | (rw [bI_of q31]; exact fun z => q40 z))] at htl
           exact ⟨fun _ => ⟨rfl, hr1, hM1⟩, fun G1 z => (by rw [htl] at z; cases z)⟩)
        | (have htl : tellO (f, n, nI m, jp, cl, lo, ps, cs, mk, qt, oc) x y (bI b) = none := by
             unfold tellO
             rcases hfd : (hpsG (f, n, nI m, jp, cl, lo, ps, cs, mk, qt, oc)).find? (isFT x y) with _ | q
             · rfl
             · exfalso
               obtain ⟨j, hq, hj⟩ := (fI_find _ 0).2 q hfd
               have hj : fI (isFT x y) (hopsN f (nI m) jp oc) 0 = nI (0 + j) := hj
               rw [hj, Nat.zero_add] at q19
               have hjl : j < (hopsN f (nI m) jp oc).length := (List.getElem?_eq_some_iff.mp hq).1
               exact nI_n6 (by have := hh1.1; omega) q19
           exact ⟨fun _ => ⟨rfl, hr1, hM1⟩, fun G1 z => (by rw [htl] at z; cases z)⟩)

theorem tTold {Γ : CT} {w : PW} {G : GS} {H : List GS} {S : Nat → Option GS} {pf : Nat → Int32} {pn : Nat} {x y : Int32} {b : Bool} (hr : isRD w G H S pf pn) (hok : okG G) : Cl Γ yX6_makeToldHop XX6_makeToldHop 6 0 0 [.ref 0, .int x, .int y, .int (bI b)] w (fun r w1 => (tellO G x y (bI b) = none → rP 0 (toRD w G H S pf pn) r w1) ∧ ∀ G1, tellO G x y (bI b) = some G1 → rP 1 (toRD w G1 H S pf pn) r w1) := by
  obtain ⟨f, n, mv, jp, cl, lo, ps, cs, mk, qt, oc⟩ := G
  obtain ⟨m, hm, e, hc⟩ := side_ix hok.1
  have e : mv = nI m := e
  subst e
  exact tX6_makeToldHop hr hm hok
def paO (pf : Nat → Int32) (pn : Nat) : Nat → Nat → Int32 → Int32 → Bool → GS → Int32 → Int32 × GS
  | 0, _, _, _, _, G, md => (md, G)
  | k + 1, i, fr, num, b, G, md =>
    if sgO pf pn i = 44 then (match tellO G fr num (bI b) with | none => (md, G) | some G1 => paO pf pn k (i + 1) fr 0 b G1 (md + 1))
    else if sgO pf pn i = 45 ∨ sgO pf pn i = 120 then paO pf pn k (i + 1) num 0 (decide (sgO pf pn i = 120)) G md
    else paO pf pn k (i + 1) fr (num * 10 + (sgO pf pn i - 48)) b G md
theorem qTold {Γ : CT} {X : MX} {R : Room} {sc : Option (Nat × (Nat → Int32))} {FZ : FX} {kc ks : Nat} {pc : Nat} {ls : List (Option Value)} {st : List Value} {o : Option GS} {P : PW → Prop} {Q : GS → PW → Prop} (k0 : o = none → ∀ w1, P w1 → Rn Γ X R sc FZ kc ks w1 pc ls (.int 0 :: st)) (k1 : ∀ G1, o = some G1 → ∀ w1, Q G1 w1 → Rn Γ X R sc FZ kc ks w1 pc ls (.int 1 :: st)) : ∀ r w1, ((o = none → rP 0 P r w1) ∧ ∀ G1, o = some G1 → rP 1 (Q G1) r w1) → Rn Γ X R sc FZ kc ks w1 pc ls (r.toList ++ st) := by
  intro r w1 h
  cases o with
  | none =>
    obtain ⟨e, h1⟩ := h.1 rfl
    subst e
    exact k0 rfl w1 h1
  | some G1 =>
    obtain ⟨e, h1⟩ := h.2 G1 rfl
    subst e
    exact k1 G1 rfl w1 h1
set_option maxRecDepth 100000 in
theorem tX6_playAll {Γ : CT} {w : PW} {f n : Nat → Int32} {mv jp : Int32} {cl lo : Nat → Int32} {ps : List T3} {cs mk qt oc : Int32} {H : List GS} {S : Nat → Option GS} {pf : Nat → Int32} {pn : Nat} (hr : isRD w (f, n, mv, jp, cl, lo, ps, cs, mk, qt, oc) H S pf pn) (hok : okG (f, n, mv, jp, cl, lo, ps, cs, mk, qt, oc)) : Cl Γ yX6_playAll XX6_playAll 7 7 252 [.ref 0] w (if ffO pf pn pn 0 0 0 = -6 then rP (paO pf pn (pn + 1) 0 0 0 false (f, n, mv, jp, cl, lo, ps, cs, mk, qt, oc) 0).1 (toRD w (paO pf pn (pn + 1) 0 0 0 false (f, n, mv, jp, cl, lo, ps, cs, mk, qt, oc) 0).2 (keepL H (f, n, mv, jp, cl, lo, ps, cs, mk, qt, oc)) S pf 0) else rI (-3) w) := by
  obtain ⟨⟨r0, r13, r14, r15⟩, rg, ⟨st, sl, r8, r9, r10, rH, rp, rS, rk⟩, rd, rs⟩ := id hr
  have rG : isGm w 1 f n mv jp cl lo ps cs mk qt oc := rg
  obtain ⟨g1, gb, g5, g6, gl, pfG, gO, g7⟩ := id rG
  have gb0 := gb.1
  have rd0 := rd.1
  have loop : ∀ (m i : Nat) (u : PW) (fr num mk1 : Int32) (b : Bool) (G : GS) (x6 : Option Value), i + m = pn + 1 → (toRD w G (keepL H (f, n, mv, jp, cl, lo, ps, cs, mk, qt, oc)) S pf pn u) → okG G → (paO pf pn m i fr num b G mk1 = paO pf pn (pn + 1) 0 0 0 false (f, n, mv, jp, cl, lo, ps, cs, mk, qt, oc) 0) → Rn Γ XX6_playAll (rmO 7 7 252) none (FinM (rP (paO pf pn (pn + 1) 0 0 0 false (f, n, mv, jp, cl, lo, ps, cs, mk, qt, oc) 0).1 (toRD w (paO pf pn (pn + 1) 0 0 0 false (f, n, mv, jp, cl, lo, ps, cs, mk, qt, oc) 0).2 (keepL H (f, n, mv, jp, cl, lo, ps, cs, mk, qt, oc)) S pf 0)) 7 252) 7 252 u 38 [some (.ref 0), some (.int mk1), some (.int fr), some (.int num), some (.int (bI b)), some (.int (nI i)), x6] [] := by
    intro m
    induction m with
    | zero =>
      intro i u fr num mk1 b G x6 hi hu hok hE
      obtain ⟨⟨⟨u0, -, -, -⟩, -, -, ud, -⟩, hMu⟩ := id hu
      have ud0 := ud.1
      have hpn := ud.2.2.1
      refine r_iload 40 dX6_playAll_38 rfl rfl ?_
      refine r_aload_n 41 dX6_playAll_40 rfl rfl rfl ?_
      refine r_getf 44 dX6_playAll_41 rfl f_X6_30.r (by repeat (first | assumption | exact isBd.o (by assumption) | exact isHp.o (by assumption) | exact isGm.o (by assumption) | exact isPd.o (by assumption) | refine gs_eq ?_ | refine gs_ne (by omega) ?_ | exact is_of (by assumption) | refine gs_is ?_)) rfl ?_
      refine r_getf 47 dX6_playAll_44 rfl f_X6_116.r (by repeat (first | assumption | exact isBd.o (by assumption) | exact isHp.o (by assumption) | exact isGm.o (by assumption) | exact isPd.o (by assumption) | refine gs_eq ?_ | refine gs_ne (by omega) ?_ | exact is_of (by assumption) | refine gs_is ?_)) rfl ?_
      refine r_icmp_gt 142 50 dX6_playAll_47 (by decide) rfl (fun q47 => ?_) (fun q47 => absurd q47 (fun z => z (nI_lt (by omega) (by omega))))
      refine r_aload_n 143 dX6_playAll_142 rfl rfl rfl ?_
      refine r_getf 146 dX6_playAll_143 rfl f_X6_30.r (by repeat (first | assumption | exact isBd.o (by assumption) | exact isHp.o (by assumption) | exact isGm.o (by assumption) | exact isPd.o (by assumption) | refine gs_eq ?_ | refine gs_ne (by omega) ?_ | exact is_of (by assumption) | refine gs_is ?_)) rfl ?_
      refine r_iconst (v := nI 0) 147 dX6_playAll_146 rfl (by decide) ?_
      refine r_putf (fs1 := [_, _]) 150 dX6_playAll_147 rfl f_X6_116 (by repeat (first | assumption | exact isBd.o (by assumption) | exact isHp.o (by assumption) | exact isGm.o (by assumption) | exact isPd.o (by assumption) | refine gs_eq ?_ | refine gs_ne (by omega) ?_ | exact is_of (by assumption) | refine gs_is ?_)) rfl (by simp only [List.length_cons, List.length_nil]; omega) rfl ?_
      refine r_iload_n 151 dX6_playAll_150 rfl rfl ?_
      refine r_iret dX6_playAll_151 rfl (Nat.le_refl 7) (Nat.le_refl 252) ?_
      rw [← hE]
      unfold paO
      exact ⟨rfl, toRD.tr hu (hu.1.pad (Fr.st (Or.inl rfl)) (ud.len (pm := 0) (by decide)))⟩
    | succ m ih =>
      intro i u fr num mk1 b G x6 hi hu hok hE
      obtain ⟨⟨⟨u0, -, -, -⟩, -, -, ud, -⟩, hMu⟩ := id hu
      have ud0 := ud.1
      have hpn := ud.2.2.1
      refine r_iload 40 dX6_playAll_38 rfl rfl ?_
      refine r_aload_n 41 dX6_playAll_40 rfl rfl rfl ?_
      refine r_getf 44 dX6_playAll_41 rfl f_X6_30.r (by repeat (first | assumption | exact isBd.o (by assumption) | exact isHp.o (by assumption) | exact isGm.o (by assumption) | exact isPd.o (by assumption) | refine gs_eq ?_ | refine gs_ne (by omega) ?_ | exact is_of (by assumption) | refine gs_is ?_)) rfl ?_
      refine r_getf 47 dX6_playAll_44 rfl f_X6_116.r (by repeat (first | assumption | exact isBd.o (by assumption) | exact isHp.o (by assumption) | exact isGm.o (by assumption) | exact isPd.o (by assumption) | refine gs_eq ?_ | refine gs_ne (by omega) ?_ | exact is_of (by assumption) | refine gs_is ?_)) rfl ?_
      refine r_icmp_gt 142 50 dX6_playAll_47 (by decide) rfl (fun q47 => absurd q47 (nI_nlt (by omega) (by omega))) (fun q47 => ?_)
      refine r_aload_n 51 dX6_playAll_50 rfl rfl rfl ?_
      refine r_getf 54 dX6_playAll_51 rfl f_X6_30.r (by repeat (first | assumption | exact isBd.o (by assumption) | exact isHp.o (by assumption) | exact isGm.o (by assumption) | exact isPd.o (by assumption) | refine gs_eq ?_ | refine gs_ne (by omega) ?_ | exact is_of (by assumption) | refine gs_is ?_)) rfl ?_
      refine r_iload 56 dX6_playAll_54 rfl rfl ?_
      refine r_callV0 59 dX6_playAll_56 rfl (tX4_signAt ud (by omega)) l_X6_119 mX4_signAt rfl (by repeat (first | assumption | exact isBd.o (by assumption) | exact isHp.o (by assumption) | exact isGm.o (by assumption) | exact isPd.o (by assumption) | refine gs_eq ?_ | refine gs_ne (by omega) ?_ | exact is_of (by assumption) | refine gs_is ?_)) rfl (by decide) (Nat.le_of_ble_eq_true rfl) (by decide) (qI ?_)
      refine r_istore (ls1 := [_, _, _, _, _, _, _]) 61 dX6_playAll_59 rfl (by decide) rfl rfl ?_
      refine r_iload 63 dX6_playAll_61 rfl rfl ?_
      refine r_bipush (v := 44) 65 dX6_playAll_63 rfl (by decide) ?_
      refine r_icmp_ne 90 68 dX6_playAll_65 (by decide) rfl (fun q65 => ?_) (fun q65 => ?_)
      · refine r_iload 92 dX6_playAll_90 rfl rfl ?_
        refine r_bipush (v := 45) 94 dX6_playAll_92 rfl (by decide) ?_
        refine r_icmp_eq 104 97 dX6_playAll_94 (by decide) rfl (fun q94 => ?_) (fun q94 => ?_)
        · refine r_iload_n 105 dX6_playAll_104 rfl rfl ?_
          refine r_istore_n (ls1 := [_, _, _, _, _, _, _]) 106 dX6_playAll_105 rfl (by decide) rfl rfl ?_
          refine r_iload 108 dX6_playAll_106 rfl rfl ?_
          refine r_bipush (v := 120) 110 dX6_playAll_108 rfl (by decide) ?_
          refine r_icmp_ne 117 113 dX6_playAll_110 (by decide) rfl (fun q110 => ?_) (fun q110 => ?_)
          · refine r_iconst (v := 0) 118 dX6_playAll_117 rfl (by decide) ?_
            refine r_istore (ls1 := [_, _, _, _, _, _, _]) 120 dX6_playAll_118 rfl (by decide) rfl rfl ?_
            refine r_iconst (v := 0) 121 dX6_playAll_120 rfl (by decide) ?_
            refine r_istore_n (ls1 := [_, _, _, _, _, _, _]) 122 dX6_playAll_121 rfl (by decide) rfl rfl ?_
            refine r_goto 136 dX6_playAll_122 (by decide) ?_
            refine r_iinc (ls1 := [_, _, _, _, _, _, _]) 139 dX6_playAll_136 rfl (by decide) rfl rfl (nI_1 i) rfl ?_
            refine r_goto 38 dX6_playAll_139 (by decide) ?_
            first
            | exact ih (i + 1) _ _ _ _ _ _ _ (by omega) (toRD.tr hu hu1) (hok.told htl) (by rw [← hE]; (conv => rhs; unfold paO; rw [if_pos q65, htl]); first | done | rfl)
            | exact ih (i + 1) _ _ _ _ true _ _ (by omega) hu hok (by rw [← hE]; (conv => rhs; unfold paO; rw [if_neg q65, if_pos (Or.inr q110), decide_eq_true q110]); first | done | rfl)
            | exact ih (i + 1) _ _ _ _ false _ _ (by omega) hu hok (by rw [← hE]; (conv => rhs; unfold paO; rw [if_neg q65, if_pos (by first | exact Or.inl q94 | exact Or.inr q101), decide_eq_false q110]); first | done | rfl)
            | exact ih (i + 1) _ _ _ _ _ _ _ (by omega) hu hok (by rw [← hE]; (conv => rhs; unfold paO; rw [if_neg q65, if_neg (fun z => z.elim q94 q101)]); first | done | rfl)
          · refine r_iconst (v := 1) 114 dX6_playAll_113 rfl (by decide) ?_
            refine r_goto 118 dX6_playAll_114 (by decide) ?_
            refine r_istore (ls1 := [_, _, _, _, _, _, _]) 120 dX6_playAll_118 rfl (by decide) rfl rfl ?_
            refine r_iconst (v := 0) 121 dX6_playAll_120 rfl (by decide) ?_
            refine r_istore_n (ls1 := [_, _, _, _, _, _, _]) 122 dX6_playAll_121 rfl (by decide) rfl rfl ?_
            refine r_goto 136 dX6_playAll_122 (by decide) ?_
            refine r_iinc (ls1 := [_, _, _, _, _, _, _]) 139 dX6_playAll_136 rfl (by decide) rfl rfl (nI_1 i) rfl ?_
            refine r_goto 38 dX6_playAll_139 (by decide) ?_
            first
            | exact ih (i + 1) _ _ _ _ _ _ _ (by omega) (toRD.tr hu hu1) (hok.told htl) (by rw [← hE]; (conv => rhs; unfold paO; rw [if_pos q65, htl]); first | done | rfl)
            | exact ih (i + 1) _ _ _ _ true _ _ (by omega) hu hok (by rw [← hE]; (conv => rhs; unfold paO; rw [if_neg q65, if_pos (Or.inr q110), decide_eq_true q110]); first | done | rfl)
            | exact ih (i + 1) _ _ _ _ false _ _ (by omega) hu hok (by rw [← hE]; (conv => rhs; unfold paO; rw [if_neg q65, if_pos (by first | exact Or.inl q94 | exact Or.inr q101), decide_eq_false q110]); first | done | rfl)
            | exact ih (i + 1) _ _ _ _ _ _ _ (by omega) hu hok (by rw [← hE]; (conv => rhs; unfold paO; rw [if_neg q65, if_neg (fun z => z.elim q94 q101)]); first | done | rfl)
        · refine r_iload 99 dX6_playAll_97 rfl rfl ?_
          refine r_bipush (v := 120) 101 dX6_playAll_99 rfl (by decide) ?_
          refine r_icmp_ne 125 104 dX6_playAll_101 (by decide) rfl (fun q101 => ?_) (fun q101 => ?_)
          · refine r_iload_n 126 dX6_playAll_125 rfl rfl ?_
            refine r_bipush (v := 10) 128 dX6_playAll_126 rfl (by decide) ?_
            refine r_imul 129 dX6_playAll_128 rfl ?_
            refine r_iload 131 dX6_playAll_129 rfl rfl ?_
            refine r_bipush (v := 48) 133 dX6_playAll_131 rfl (by decide) ?_
            refine r_isub 134 dX6_playAll_133 rfl ?_
            refine r_iadd 135 dX6_playAll_134 rfl ?_
            refine r_istore_n (ls1 := [_, _, _, _, _, _, _]) 136 dX6_playAll_135 rfl (by decide) rfl rfl ?_
            refine r_iinc (ls1 := [_, _, _, _, _, _, _]) 139 dX6_playAll_136 rfl (by decide) rfl rfl (nI_1 i) rfl ?_
            refine r_goto 38 dX6_playAll_139 (by decide) ?_
            first
            | exact ih (i + 1) _ _ _ _ _ _ _ (by omega) (toRD.tr hu hu1) (hok.told htl) (by rw [← hE]; (conv => rhs; unfold paO; rw [if_pos q65, htl]); first | done | rfl)
            | exact ih (i + 1) _ _ _ _ true _ _ (by omega) hu hok (by rw [← hE]; (conv => rhs; unfold paO; rw [if_neg q65, if_pos (Or.inr q110), decide_eq_true q110]); first | done | rfl)
            | exact ih (i + 1) _ _ _ _ false _ _ (by omega) hu hok (by rw [← hE]; (conv => rhs; unfold paO; rw [if_neg q65, if_pos (by first | exact Or.inl q94 | exact Or.inr q101), decide_eq_false q110]); first | done | rfl)
            | exact ih (i + 1) _ _ _ _ _ _ _ (by omega) hu hok (by rw [← hE]; (conv => rhs; unfold paO; rw [if_neg q65, if_neg (fun z => z.elim q94 q101)]); first | done | rfl)
          · refine r_iload_n 105 dX6_playAll_104 rfl rfl ?_
            refine r_istore_n (ls1 := [_, _, _, _, _, _, _]) 106 dX6_playAll_105 rfl (by decide) rfl rfl ?_
            refine r_iload 108 dX6_playAll_106 rfl rfl ?_
            refine r_bipush (v := 120) 110 dX6_playAll_108 rfl (by decide) ?_
            refine r_icmp_ne 117 113 dX6_playAll_110 (by decide) rfl (fun q110 => ?_) (fun q110 => ?_)
            · refine r_iconst (v := 0) 118 dX6_playAll_117 rfl (by decide) ?_
              refine r_istore (ls1 := [_, _, _, _, _, _, _]) 120 dX6_playAll_118 rfl (by decide) rfl rfl ?_
              refine r_iconst (v := 0) 121 dX6_playAll_120 rfl (by decide) ?_
              refine r_istore_n (ls1 := [_, _, _, _, _, _, _]) 122 dX6_playAll_121 rfl (by decide) rfl rfl ?_
              refine r_goto 136 dX6_playAll_122 (by decide) ?_
              refine r_iinc (ls1 := [_, _, _, _, _, _, _]) 139 dX6_playAll_136 rfl (by decide) rfl rfl (nI_1 i) rfl ?_
              refine r_goto 38 dX6_playAll_139 (by decide) ?_
              first
              | exact ih (i + 1) _ _ _ _ _ _ _ (by omega) (toRD.tr hu hu1) (hok.told htl) (by rw [← hE]; (conv => rhs; unfold paO; rw [if_pos q65, htl]); first | done | rfl)
              | exact ih (i + 1) _ _ _ _ true _ _ (by omega) hu hok (by rw [← hE]; (conv => rhs; unfold paO; rw [if_neg q65, if_pos (Or.inr q110), decide_eq_true q110]); first | done | rfl)
              | exact ih (i + 1) _ _ _ _ false _ _ (by omega) hu hok (by rw [← hE]; (conv => rhs; unfold paO; rw [if_neg q65, if_pos (by first | exact Or.inl q94 | exact Or.inr q101), decide_eq_false q110]); first | done | rfl)
              | exact ih (i + 1) _ _ _ _ _ _ _ (by omega) hu hok (by rw [← hE]; (conv => rhs; unfold paO; rw [if_neg q65, if_neg (fun z => z.elim q94 q101)]); first | done | rfl)
            · refine r_iconst (v := 1) 114 dX6_playAll_113 rfl (by decide) ?_
              refine r_goto 118 dX6_playAll_114 (by decide) ?_
              refine r_istore (ls1 := [_, _, _, _, _, _, _]) 120 dX6_playAll_118 rfl (by decide) rfl rfl ?_
              refine r_iconst (v := 0) 121 dX6_playAll_120 rfl (by decide) ?_
              refine r_istore_n (ls1 := [_, _, _, _, _, _, _]) 122 dX6_playAll_121 rfl (by decide) rfl rfl ?_
              refine r_goto 136 dX6_playAll_122 (by decide) ?_
              refine r_iinc (ls1 := [_, _, _, _, _, _, _]) 139 dX6_playAll_136 rfl (by decide) rfl rfl (nI_1 i) rfl ?_
              refine r_goto 38 dX6_playAll_139 (by decide) ?_
              first
              | exact ih (i + 1) _ _ _ _ _ _ _ (by omega) (toRD.tr hu hu1) (hok.told htl) (by rw [← hE]; (conv => rhs; unfold paO; rw [if_pos q65, htl]); first | done | rfl)
              | exact ih (i + 1) _ _ _ _ true _ _ (by omega) hu hok (by rw [← hE]; (conv => rhs; unfold paO; rw [if_neg q65, if_pos (Or.inr q110), decide_eq_true q110]); first | done | rfl)
              | exact ih (i + 1) _ _ _ _ false _ _ (by omega) hu hok (by rw [← hE]; (conv => rhs; unfold paO; rw [if_neg q65, if_pos (by first | exact Or.inl q94 | exact Or.inr q101), decide_eq_false q110]); first | done | rfl)
              | exact ih (i + 1) _ _ _ _ _ _ _ (by omega) hu hok (by rw [← hE]; (conv => rhs; unfold paO; rw [if_neg q65, if_neg (fun z => z.elim q94 q101)]); first | done | rfl)
      · refine r_aload_n 69 dX6_playAll_68 rfl rfl rfl ?_
        refine r_iload_n 70 dX6_playAll_69 rfl rfl ?_
        refine r_iload_n 71 dX6_playAll_70 rfl rfl ?_
        refine r_iload 73 dX6_playAll_71 rfl rfl ?_
        refine r_callV0 76 dX6_playAll_73 rfl (tTold hu.1 hok) l_X6_123 mX6_makeToldHop rfl (by repeat (first | assumption | exact isBd.o (by assumption) | exact isHp.o (by assumption) | exact isGm.o (by assumption) | exact isPd.o (by assumption) | refine gs_eq ?_ | refine gs_ne (by omega) ?_ | exact is_of (by assumption) | refine gs_is ?_)) rfl (by decide) (Nat.le_of_ble_eq_true rfl) (by decide) (qTold (fun htl w1 hu1 => ?_) (fun G1 htl w1 hu1 => ?_))
        · obtain ⟨⟨⟨v0, -, -, -⟩, -, -, vd, -⟩, hMv⟩ := id hu1
          have vd0 := vd.1
          refine r_if_ne 82 79 dX6_playAll_76 (by decide) rfl (fun q76 => absurd q76 (fun z => z rfl)) (fun q76 => ?_)
          refine r_goto 142 dX6_playAll_79 (by decide) ?_
          refine r_aload_n 143 dX6_playAll_142 rfl rfl rfl ?_
          refine r_getf 146 dX6_playAll_143 rfl f_X6_30.r (by repeat (first | assumption | exact isBd.o (by assumption) | exact isHp.o (by assumption) | exact isGm.o (by assumption) | exact isPd.o (by assumption) | refine gs_eq ?_ | refine gs_ne (by omega) ?_ | exact is_of (by assumption) | refine gs_is ?_)) rfl ?_
          refine r_iconst (v := nI 0) 147 dX6_playAll_146 rfl (by decide) ?_
          refine r_putf (fs1 := [_, _]) 150 dX6_playAll_147 rfl f_X6_116 (by repeat (first | assumption | exact isBd.o (by assumption) | exact isHp.o (by assumption) | exact isGm.o (by assumption) | exact isPd.o (by assumption) | refine gs_eq ?_ | refine gs_ne (by omega) ?_ | exact is_of (by assumption) | refine gs_is ?_)) rfl (by simp only [List.length_cons, List.length_nil]; omega) rfl ?_
          refine r_iload_n 151 dX6_playAll_150 rfl rfl ?_
          refine r_iret dX6_playAll_151 rfl (Nat.le_refl 7) (Nat.le_refl 252) ?_
          rw [← hE]
          unfold paO
          rw [if_pos q65, htl]
          exact ⟨rfl, toRD.tr hu (toRD.tr hu1 (hu1.1.pad (Fr.st (Or.inl rfl)) (vd.len (pm := 0) (by decide))))⟩
        · obtain ⟨⟨⟨v0, -, -, -⟩, -, -, vd, -⟩, hMv⟩ := id hu1
          have vd0 := vd.1
          refine r_if_ne 82 79 dX6_playAll_76 (by decide) rfl (fun q76 => ?_) (fun q76 => absurd q76 (by decide))
          refine r_iinc (ls1 := [_, _, _, _, _, _, _]) 85 dX6_playAll_82 rfl (by decide) rfl rfl rfl rfl ?_
          refine r_iconst (v := 0) 86 dX6_playAll_85 rfl (by decide) ?_
          refine r_istore_n (ls1 := [_, _, _, _, _, _, _]) 87 dX6_playAll_86 rfl (by decide) rfl rfl ?_
          refine r_goto 136 dX6_playAll_87 (by decide) ?_
          refine r_iinc (ls1 := [_, _, _, _, _, _, _]) 139 dX6_playAll_136 rfl (by decide) rfl rfl (nI_1 i) rfl ?_
          refine r_goto 38 dX6_playAll_139 (by decide) ?_
          first
          | exact ih (i + 1) _ _ _ _ _ _ _ (by omega) (toRD.tr hu hu1) (hok.told htl) (by rw [← hE]; (conv => rhs; unfold paO; rw [if_pos q65, htl]); first | done | rfl)
          | exact ih (i + 1) _ _ _ _ true _ _ (by omega) hu hok (by rw [← hE]; (conv => rhs; unfold paO; rw [if_neg q65, if_pos (Or.inr q110), decide_eq_true q110]); first | done | rfl)
          | exact ih (i + 1) _ _ _ _ false _ _ (by omega) hu hok (by rw [← hE]; (conv => rhs; unfold paO; rw [if_neg q65, if_pos (by first | exact Or.inl q94 | exact Or.inr q101), decide_eq_false q110]); first | done | rfl)
          | exact ih (i + 1) _ _ _ _ _ _ _ (by omega) hu hok (by rw [← hE]; (conv => rhs; unfold paO; rw [if_neg q65, if_neg (fun z => z.elim q94 q101)]); first | done | rfl)
  refine Cl.of (ls := [some (.ref 0), none, none, none, none, none, none]) rfl (by decide +kernel) (fun h => by cases h) (Nat.le_of_ble_eq_true rfl) rfl ?_
  refine r_aload_n 1 dX6_playAll_0 rfl rfl rfl ?_
  refine r_getf 4 dX6_playAll_1 rfl f_X6_30.r (by repeat (first | assumption | exact isBd.o (by assumption) | exact isHp.o (by assumption) | exact isGm.o (by assumption) | exact isPd.o (by assumption) | refine gs_eq ?_ | refine gs_ne (by omega) ?_ | exact is_of (by assumption) | refine gs_is ?_)) rfl ?_
  refine r_callV0 7 dX6_playAll_4 rfl (tX4_findFault rd) l_X6_112 mX4_findFault rfl (by repeat (first | assumption | exact isBd.o (by assumption) | exact isHp.o (by assumption) | exact isGm.o (by assumption) | exact isPd.o (by assumption) | refine gs_eq ?_ | refine gs_ne (by omega) ?_ | exact is_of (by assumption) | refine gs_is ?_)) rfl (by decide) (Nat.le_of_ble_eq_true rfl) (by decide) (qI ?_)
  refine r_bipush (v := (-6)) 9 dX6_playAll_7 rfl (by decide) ?_
  refine r_icmp_eq 15 12 dX6_playAll_9 (by decide) rfl (fun q9 => ?_) (fun q9 => ?_)
  · rw [if_pos q9]
    refine r_aload_n 16 dX6_playAll_15 rfl rfl rfl ?_
    refine r_getf 19 dX6_playAll_16 rfl f_X6_19.r (by repeat (first | assumption | exact isBd.o (by assumption) | exact isHp.o (by assumption) | exact isGm.o (by assumption) | exact isPd.o (by assumption) | refine gs_eq ?_ | refine gs_ne (by omega) ?_ | exact is_of (by assumption) | refine gs_is ?_)) rfl ?_
    refine r_aload_n 20 dX6_playAll_19 rfl rfl rfl ?_
    refine r_getf 23 dX6_playAll_20 rfl f_X6_10.r (by repeat (first | assumption | exact isBd.o (by assumption) | exact isHp.o (by assumption) | exact isGm.o (by assumption) | exact isPd.o (by assumption) | refine gs_eq ?_ | refine gs_ne (by omega) ?_ | exact is_of (by assumption) | refine gs_is ?_)) rfl ?_
    refine r_callV 26 dX6_playAll_23 rfl (tKeep hr) l_X6_47 mX2_keep rfl (by repeat (first | assumption | exact isBd.o (by assumption) | exact isHp.o (by assumption) | exact isGm.o (by assumption) | exact isPd.o (by assumption) | refine gs_eq ?_ | refine gs_ne (by omega) ?_ | exact is_of (by assumption) | refine gs_is ?_)) rfl (by decide) (Nat.le_of_ble_eq_true rfl) (by decide) (qN fun w1 hk1 => ?_)
    refine r_iconst (v := 0) 27 dX6_playAll_26 rfl (by decide) ?_
    refine r_istore_n (ls1 := [_, _, _, _, _, _, _]) 28 dX6_playAll_27 rfl (by decide) rfl rfl ?_
    refine r_iconst (v := 0) 29 dX6_playAll_28 rfl (by decide) ?_
    refine r_istore_n (ls1 := [_, _, _, _, _, _, _]) 30 dX6_playAll_29 rfl (by decide) rfl rfl ?_
    refine r_iconst (v := 0) 31 dX6_playAll_30 rfl (by decide) ?_
    refine r_istore_n (ls1 := [_, _, _, _, _, _, _]) 32 dX6_playAll_31 rfl (by decide) rfl rfl ?_
    refine r_iconst (v := 0) 33 dX6_playAll_32 rfl (by decide) ?_
    refine r_istore (ls1 := [_, _, _, _, _, _, _]) 35 dX6_playAll_33 rfl (by decide) rfl rfl ?_
    refine r_iconst (v := nI 0) 36 dX6_playAll_35 rfl (by decide) ?_
    refine r_istore (ls1 := [_, _, _, _, _, _, _]) 38 dX6_playAll_36 rfl (by decide) rfl rfl ?_
    exact loop (pn + 1) 0 w1 0 0 0 false _ none (by omega) hk1.1 hok rfl
  · refine r_bipush (v := (-3)) 14 dX6_playAll_12 rfl (by decide) ?_
    refine r_iret dX6_playAll_14 rfl (by decide) (by decide) ?_
    rw [if_neg q9]
    exact ⟨rfl, rfl⟩
