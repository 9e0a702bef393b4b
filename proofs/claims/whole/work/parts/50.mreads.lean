/-! ===== the model: slots, what there is ===== -/
set_option maxRecDepth 100000 in
theorem tX7_save {Γ : CT} {w : PW} {f n : Nat → Int32} {mv jp : Int32} {cl lo : Nat → Int32} {ps : List T3} {cs mk qt oc : Int32} {P : List P3} {HM : List MG} {SM : Nat → Option MG} {pf : Nat → Int32} {pn : Nat} {x : Int32} (hr : isMD w ((f, n, mv, jp, cl, lo, ps, cs, mk, qt, oc), P) HM SM pf pn) : Cl Γ yX7_save XX7_save 9 0 0 [.ref 43, .int x] w (if 0 ≤ x ∧ x < 2 then rP mk (toMD w ((f, n, mv, jp, cl, lo, ps, cs, mk, qt, oc), P) HM (va_up SM x.toNatClampNeg (some ((f, n, mv, jp, cl, lo, ps, cs, mk, qt, oc), P))) pf pn) else rI (-2) w) := by
  refine Cl.of (ls := [some (.ref 43), some (.int x), none]) rfl (by decide +kernel) (fun h => by cases h) (Nat.le_of_ble_eq_true rfl) rfl ?_
  obtain ⟨hk, ⟨z, hz, hG⟩, W, hW⟩ := id hr
  obtain ⟨rm, sp, wr, pa, sl, sv, rd, ho, hpa, hH6, hpH, hsl, hsv, hpS, hpd, hpn, hrd⟩ := id hk
  have hA : zA z f mv oc cs cl mk jp lo qt P := hG.1
  have hP61 := hG.2
  refine r_iload_n 1 dX7_save_0 rfl rfl ?_
  refine r_iconst (v := 0) 2 dX7_save_1 rfl (by decide) ?_
  refine r_iconst (v := 1) 3 dX7_save_2 rfl (by decide) ?_
  refine r_callS0 6 dX7_save_3 rfl (tX7_in) l_X7_61 mX7_in rfl (by decide) (Nat.le_of_ble_eq_true rfl) (by decide) (qI ?_)
  refine r_if_ne 12 9 dX7_save_6 (by decide) rfl (fun q6 => ?_) (fun q6 => ?_)
  · have hx : 0 ≤ x ∧ x < 2 := by
      have h9 := of_decide_eq_true (ne_f q6)
      exact ⟨h9.1, by rw [Int32.lt_iff_toInt_lt]; have := Int32.le_iff_toInt_le.mp h9.2; show x.toInt < 2; have e : (1 : Int32).toInt = 1 := rfl; omega⟩
    obtain ⟨j, hj, hxj⟩ := slot_ix hx
    subst hxj
    have hcl : (nI j).toNatClampNeg = j := nI_clamp (by omega)
    rw [if_pos hx, hcl]
    have loop : ∀ (m i : Nat) (u : PW) (E : Nat → Int32), i + m = 431 → (Fr w u (fun q => q = 46 ∨ q = 47)) → (u[47]? = some (aZ 2 (upd sv j 1))) → (u[46]? = some (aI 862 E)) → (∀ k, k < i → E (431 * j + k) = z k) → (∀ k, (k < 431 * j ∨ 431 * (j + 1) ≤ k) → E k = sl k) → Rn Γ XX7_save (rmO 9 0 0) none (FinM (rP mk (toMD w ((f, n, mv, jp, cl, lo, ps, cs, mk, qt, oc), P) HM (va_up SM j (some ((f, n, mv, jp, cl, lo, ps, cs, mk, qt, oc), P))) pf pn)) 0 0) 0 0 u 21 [some (.ref 43), some (.int (nI j)), some (.int (nI i))] [] := by
      intro m
      induction m with
      | zero =>
        intro i u E hi hF hu7 hu6 hE1 hE2
        have h9 : i = 431 := by omega
        subst h9
        have hu4 := (hF.2 44 (by decide)).trans hz
        have hu3 := (hF.2 43 (by decide)).trans ho
        refine r_iload_n 22 dX7_save_21 rfl rfl ?_
        refine r_sipush (v := nI 431) 25 dX7_save_22 rfl (by decide) ?_
        refine r_icmp_ge 52 28 dX7_save_25 (by decide) rfl (fun q25 => ?_) (fun q25 => absurd q25 (fun z => z (nI_le (by omega) (by omega))))
        refine r_aload_n 53 dX7_save_52 rfl rfl rfl ?_
        refine r_getf 56 dX7_save_53 rfl f_X7_7.r (by repeat (first | assumption | refine gs_eq ?_ | refine gs_ne (by omega) ?_ | exact is_of (by assumption) | refine gs_is ?_)) rfl ?_
        refine r_bipush (v := 53) 58 dX7_save_56 rfl (by decide) ?_
        refine r_iald 59 dX7_save_58 rfl (53) (by repeat (first | assumption | refine gs_eq ?_ | refine gs_ne (by omega) ?_ | exact is_of (by assumption) | refine gs_is ?_)) rfl (by decide) (by decide) ?_
        rw [hA.2.2.2.2.2.2.1]
        refine r_iret dX7_save_59 rfl (by decide) (by decide) ?_
        refine ⟨rfl, hF.mono (fun q a => by unfold mS; omega), ⟨rm, sp, wr, pa, E, _, rd, hu3, hF.at (by decide) hpa, hH6, hpH, hu6, hu7, fun i hi => ?_, hF.at (by decide) hpd, hpn, hF.at (by decide) hrd⟩, ⟨z, hu4, hG⟩, W, hW.fr hF (fun q a b => by unfold wS at a; omega)⟩
        by_cases e : i = j
        · subst e
          rw [va_up_self]
          exact ⟨fun z => (by cases z), fun Y hY => ⟨pk_us, (by cases hY; exact hG.cg hE1)⟩⟩
        · rw [va_up_ne _ _ e, pk_un e]
          refine ⟨(hpS i hi).1, fun Y hY => ⟨((hpS i hi).2 Y hY).1, ((hpS i hi).2 Y hY).2.cg (fun k hk => hE2 _ (by omega))⟩⟩
      | succ m ih =>
        intro i u E hi hF hu7 hu6 hE1 hE2
        have hu4 := (hF.2 44 (by decide)).trans hz
        have hu3 := (hF.2 43 (by decide)).trans ho
        refine r_iload_n 22 dX7_save_21 rfl rfl ?_
        refine r_sipush (v := nI 431) 25 dX7_save_22 rfl (by decide) ?_
        refine r_icmp_ge 52 28 dX7_save_25 (by decide) rfl (fun q25 => absurd q25 (nI_ge (by omega) (by omega))) (fun q25 => ?_)
        refine r_aload_n 29 dX7_save_28 rfl rfl rfl ?_
        refine r_getf 32 dX7_save_29 rfl f_X7_16.r (by repeat (first | assumption | refine gs_eq ?_ | refine gs_ne (by omega) ?_ | exact is_of (by assumption) | refine gs_is ?_)) rfl ?_
        refine r_iload_n 33 dX7_save_32 rfl rfl ?_
        refine r_sipush (v := nI 431) 36 dX7_save_33 rfl (by decide) ?_
        refine r_imul 37 dX7_save_36 rfl ?_
        rw [pk_mul, Nat.mul_comm j 431]
        refine r_iload_n 38 dX7_save_37 rfl rfl ?_
        refine r_iadd 39 dX7_save_38 rfl ?_
        rw [nI_add]
        refine r_aload_n 40 dX7_save_39 rfl rfl rfl ?_
        refine r_getf 43 dX7_save_40 rfl f_X7_7.r (by repeat (first | assumption | refine gs_eq ?_ | refine gs_ne (by omega) ?_ | exact is_of (by assumption) | refine gs_is ?_)) rfl ?_
        refine r_iload_n 44 dX7_save_43 rfl rfl ?_
        refine r_iald 45 dX7_save_44 rfl (i) (by repeat (first | assumption | refine gs_eq ?_ | refine gs_ne (by omega) ?_ | exact is_of (by assumption) | refine gs_is ?_)) rfl (by omega) (by decide) ?_
        refine r_iast 46 dX7_save_45 rfl (431 * j + i) (by repeat (first | assumption | refine gs_eq ?_ | refine gs_ne (by omega) ?_ | exact is_of (by assumption) | refine gs_is ?_)) rfl (by omega) (by decide) ?_
        refine r_iinc (ls1 := [_, _, _]) 49 dX7_save_46 rfl (by decide) rfl rfl (nI_1 i) rfl ?_
        refine r_goto 21 dX7_save_49 (by decide) ?_
        refine ih (i + 1) _ _ (by omega) (Fr.tr hF (Fr.st (Or.inl rfl))) (by repeat (first | assumption | refine gs_eq ?_ | refine gs_ne (by omega) ?_ | exact is_of (by assumption) | refine gs_is ?_)) (by repeat (first | assumption | refine gs_eq ?_ | refine gs_ne (by omega) ?_ | exact is_of (by assumption) | refine gs_is ?_)) (fun k hk => ?_) (fun k hk => (pk_un (by omega)).trans (hE2 k hk))
        rcases Nat.lt_or_ge k i with h | h
        · exact (pk_un (by omega)).trans (hE1 k h)
        · rw [show k = i by omega]
          exact pk_us
    refine r_aload_n 13 dX7_save_12 rfl rfl rfl ?_
    refine r_getf 16 dX7_save_13 rfl f_X7_19.r (by repeat (first | assumption | refine gs_eq ?_ | refine gs_ne (by omega) ?_ | exact is_of (by assumption) | refine gs_is ?_)) rfl ?_
    refine r_iload_n 17 dX7_save_16 rfl rfl ?_
    refine r_iconst (v := 1) 18 dX7_save_17 rfl (by decide) ?_
    refine r_zast 19 dX7_save_18 rfl (j) (by repeat (first | assumption | refine gs_eq ?_ | refine gs_ne (by omega) ?_ | exact is_of (by assumption) | refine gs_is ?_)) rfl hj (by decide) ?_
    refine r_iconst (v := nI 0) 20 dX7_save_19 rfl (by decide) ?_
    refine r_istore_n (ls1 := [_, _, _]) 21 dX7_save_20 rfl (by decide) rfl rfl ?_
    exact loop 431 0 _ sl (by omega) (Fr.st (Or.inr rfl)) (gs_eq (is_of hsv)) (by repeat (first | assumption | refine gs_eq ?_ | refine gs_ne (by omega) ?_ | exact is_of (by assumption) | refine gs_is ?_)) (fun k hk => by omega) (fun _ _ => rfl)
  · refine r_bipush (v := (-2)) 11 dX7_save_9 rfl (by decide) ?_
    refine r_iret dX7_save_11 rfl (by decide) (by decide) ?_
    rw [if_neg (fun z => of_decide_eq_false (bI_0.mp q6) ⟨z.1, by rw [Int32.le_iff_toInt_le]; have h9 := Int32.lt_iff_toInt_lt.mp z.2; have e : (2 : Int32).toInt = 2 := rfl; show x.toInt ≤ 1; omega⟩)]
    exact ⟨rfl, rfl⟩

set_option maxRecDepth 100000 in
theorem tX7_restore {Γ : CT} {w : PW} {f n : Nat → Int32} {mv jp : Int32} {cl lo : Nat → Int32} {ps : List T3} {cs mk qt oc : Int32} {P : List P3} {HM : List MG} {SM : Nat → Option MG} {pf : Nat → Int32} {pn : Nat} {x : Int32} (hr : isMD w ((f, n, mv, jp, cl, lo, ps, cs, mk, qt, oc), P) HM SM pf pn) : Cl Γ yX7_restore XX7_restore 9 0 0 [.ref 43, .int x] w (if 0 ≤ x ∧ x < 2 then (match SM x.toNatClampNeg with | none => rI (-5) w | some X1 => rP (gsMk X1.1) (toMD w X1 (keepM HM ((f, n, mv, jp, cl, lo, ps, cs, mk, qt, oc), P)) SM pf pn)) else rI (-2) w) := by
  refine Cl.of (ls := [some (.ref 43), some (.int x), none]) rfl (by decide +kernel) (fun h => by cases h) (Nat.le_of_ble_eq_true rfl) rfl ?_
  obtain ⟨hk, ⟨z, hz, hG⟩, W, hW⟩ := id hr
  obtain ⟨rm, sp, wr, pa, sl, sv, rd, ho, hpa, hH6, hpH, hsl, hsv, hpS, hpd, hpn, hrd⟩ := id hk
  have hA : zA z f mv oc cs cl mk jp lo qt P := hG.1
  have hP61 := hG.2
  refine r_iload_n 1 dX7_restore_0 rfl rfl ?_
  refine r_iconst (v := 0) 2 dX7_restore_1 rfl (by decide) ?_
  refine r_iconst (v := 1) 3 dX7_restore_2 rfl (by decide) ?_
  refine r_callS0 6 dX7_restore_3 rfl (tX7_in) l_X7_61 mX7_in rfl (by decide) (Nat.le_of_ble_eq_true rfl) (by decide) (qI ?_)
  refine r_if_ne 12 9 dX7_restore_6 (by decide) rfl (fun q6 => ?_) (fun q6 => ?_)
  · have hx : 0 ≤ x ∧ x < 2 := by
      have h9 := of_decide_eq_true (ne_f q6)
      exact ⟨h9.1, by rw [Int32.lt_iff_toInt_lt]; have := Int32.le_iff_toInt_le.mp h9.2; show x.toInt < 2; have e : (1 : Int32).toInt = 1 := rfl; omega⟩
    obtain ⟨j, hj, hxj⟩ := slot_ix hx
    subst hxj
    have hcl : (nI j).toNatClampNeg = j := nI_clamp (by omega)
    rw [if_pos hx, hcl]
    refine r_aload_n 13 dX7_restore_12 rfl rfl rfl ?_
    refine r_getf 16 dX7_restore_13 rfl f_X7_19.r (by repeat (first | assumption | refine gs_eq ?_ | refine gs_ne (by omega) ?_ | exact is_of (by assumption) | refine gs_is ?_)) rfl ?_
    refine r_iload_n 17 dX7_restore_16 rfl rfl ?_
    refine r_zald 18 dX7_restore_17 rfl (j) (by repeat (first | assumption | refine gs_eq ?_ | refine gs_ne (by omega) ?_ | exact is_of (by assumption) | refine gs_is ?_)) rfl hj (by decide) ?_
    rcases hS : SM j with _ | X1
    · rw [(hpS j hj).1 hS]
      refine r_if_ne 24 21 dX7_restore_18 (by decide) rfl (fun q18 => absurd q18 (fun z => z rfl)) (fun q18 => ?_)
      refine r_bipush (v := (-5)) 23 dX7_restore_21 rfl (by decide) ?_
      refine r_iret dX7_restore_23 rfl (by decide) (by decide) ?_
      exact ⟨rfl, rfl⟩
    · rw [((hpS j hj).2 X1 hS).1]
      refine r_if_ne 24 21 dX7_restore_18 (by decide) rfl (fun q18 => ?_) (fun q18 => absurd q18 (by decide))
      refine r_aload_n 25 dX7_restore_24 rfl rfl rfl ?_
      refine r_callV0 28 dX7_restore_25 rfl (tX7_record hk hz hG) l_X7_76 mX7_record rfl (by repeat (first | assumption | refine gs_eq ?_ | refine gs_ne (by omega) ?_ | exact is_of (by assumption) | refine gs_is ?_)) rfl (by decide) (Nat.le_of_ble_eq_true rfl) (by decide) (qN fun w1 h1 => ?_)
      obtain ⟨hF1, hk1⟩ := h1
      have hz1 := (hF1.2 44 (by decide)).trans hz
      obtain ⟨rm1, sp1, wr1, pa1, sl1, sv1, rd1, ho1, hpa1, hH61, hpH1, hsl1, hsv1, hpS1, hpd1, hpn1, hrd1⟩ := id hk1
      have hW1 := hW.fr hF1 (fun q a b => by unfold wS at a; omega)
      have hX1 := (hpS1 j hj).2 X1 hS
      have loop : ∀ (m i : Nat) (u : PW) (E : Nat → Int32), i + m = 431 → (Fr w1 u (fun q => q = 44)) → (u[44]? = some (aI 431 E)) → (∀ k, k < i → E k = sl1 (431 * j + k)) → Rn Γ XX7_restore (rmO 9 0 0) none (FinM (rP (gsMk X1.1) (toMD w X1 (keepM HM ((f, n, mv, jp, cl, lo, ps, cs, mk, qt, oc), P)) SM pf pn)) 0 0) 0 0 u 30 [some (.ref 43), some (.int (nI j)), some (.int (nI i))] [] := by
        intro m
        induction m with
        | zero =>
          intro i u E hi hF hu4 hE
          have h9 : i = 431 := by omega
          subst h9
          have hu3 := (hF.2 43 (by decide)).trans ho1
          have hGE := (hX1.2).cg (y := E) hE
          refine r_iload_n 31 dX7_restore_30 rfl rfl ?_
          refine r_sipush (v := nI 431) 34 dX7_restore_31 rfl (by decide) ?_
          refine r_icmp_ge 61 37 dX7_restore_34 (by decide) rfl (fun q34 => ?_) (fun q34 => absurd q34 (fun z => z (nI_le (by omega) (by omega))))
          refine r_aload_n 62 dX7_restore_61 rfl rfl rfl ?_
          refine r_getf 65 dX7_restore_62 rfl f_X7_7.r (by repeat (first | assumption | refine gs_eq ?_ | refine gs_ne (by omega) ?_ | exact is_of (by assumption) | refine gs_is ?_)) rfl ?_
          refine r_bipush (v := 53) 67 dX7_restore_65 rfl (by decide) ?_
          refine r_iald 68 dX7_restore_67 rfl (53) (by repeat (first | assumption | refine gs_eq ?_ | refine gs_ne (by omega) ?_ | exact is_of (by assumption) | refine gs_is ?_)) rfl (by decide) (by decide) ?_
          rw [hGE.1.2.2.2.2.2.2.1]
          refine r_iret dX7_restore_68 rfl (by decide) (by decide) ?_
          exact ⟨rfl, Fr.tr hF1.mR hF.z44.mZ, hk1.z hF.z44, ⟨E, hu4, hGE⟩, W, hW1.s44 hF⟩
        | succ m ih =>
          intro i u E hi hF hu4 hE
          have hu3 := (hF.2 43 (by decide)).trans ho1
          have hu6 := (hF.2 46 (by decide)).trans hsl1
          refine r_iload_n 31 dX7_restore_30 rfl rfl ?_
          refine r_sipush (v := nI 431) 34 dX7_restore_31 rfl (by decide) ?_
          refine r_icmp_ge 61 37 dX7_restore_34 (by decide) rfl (fun q34 => absurd q34 (nI_ge (by omega) (by omega))) (fun q34 => ?_)
          refine r_aload_n 38 dX7_restore_37 rfl rfl rfl ?_
          refine r_getf 41 dX7_restore_38 rfl f_X7_7.r (by repeat (first | assumption | refine gs_eq ?_ | refine gs_ne (by omega) ?_ | exact is_of (by assumption) | refine gs_is ?_)) rfl ?_
          refine r_iload_n 42 dX7_restore_41 rfl rfl ?_
          refine r_aload_n 43 dX7_restore_42 rfl rfl rfl ?_
          refine r_getf 46 dX7_restore_43 rfl f_X7_16.r (by repeat (first | assumption | refine gs_eq ?_ | refine gs_ne (by omega) ?_ | exact is_of (by assumption) | refine gs_is ?_)) rfl ?_
          refine r_iload_n 47 dX7_restore_46 rfl rfl ?_
          refine r_sipush (v := nI 431) 50 dX7_restore_47 rfl (by decide) ?_
          refine r_imul 51 dX7_restore_50 rfl ?_
          rw [pk_mul, Nat.mul_comm j 431]
          refine r_iload_n 52 dX7_restore_51 rfl rfl ?_
          refine r_iadd 53 dX7_restore_52 rfl ?_
          rw [nI_add]
          refine r_iald 54 dX7_restore_53 rfl (431 * j + i) (by repeat (first | assumption | refine gs_eq ?_ | refine gs_ne (by omega) ?_ | exact is_of (by assumption) | refine gs_is ?_)) rfl (by omega) (by decide) ?_
          refine r_iast 55 dX7_restore_54 rfl (i) (by repeat (first | assumption | refine gs_eq ?_ | refine gs_ne (by omega) ?_ | exact is_of (by assumption) | refine gs_is ?_)) rfl (by omega) (by decide) ?_
          refine r_iinc (ls1 := [_, _, _]) 58 dX7_restore_55 rfl (by decide) rfl rfl (nI_1 i) rfl ?_
          refine r_goto 30 dX7_restore_58 (by decide) ?_
          refine ih (i + 1) _ _ (by omega) (Fr.tr hF (Fr.st rfl)) (by repeat (first | assumption | refine gs_eq ?_ | refine gs_ne (by omega) ?_ | exact is_of (by assumption) | refine gs_is ?_)) (fun k hk => ?_)
          rcases Nat.lt_or_ge k i with h | h
          · exact (pk_un (by omega)).trans (hE k h)
          · rw [show k = i by omega]
            exact pk_us
      refine r_iconst (v := nI 0) 29 dX7_restore_28 rfl (by decide) ?_
      refine r_istore_n (ls1 := [_, _, _]) 30 dX7_restore_29 rfl (by decide) rfl rfl ?_
      exact loop 431 0 w1 z (by omega) Fr.rf hz1 (fun k hk => by omega)
  · refine r_bipush (v := (-2)) 11 dX7_restore_9 rfl (by decide) ?_
    refine r_iret dX7_restore_11 rfl (by decide) (by decide) ?_
    rw [if_neg (fun z => of_decide_eq_false (bI_0.mp q6) ⟨z.1, by rw [Int32.le_iff_toInt_le]; have h9 := Int32.lt_iff_toInt_lt.mp z.2; have e : (2 : Int32).toInt = 2 := rfl; show x.toInt ≤ 1; omega⟩)]
    exact ⟨rfl, rfl⟩

set_option maxRecDepth 100000 in
theorem tX7_wipe {Γ : CT} {w : PW} {f n : Nat → Int32} {mv jp : Int32} {cl lo : Nat → Int32} {ps : List T3} {cs mk qt oc : Int32} {P : List P3} {HM : List MG} {SM : Nat → Option MG} {pf : Nat → Int32} {pn : Nat} (hr : isMD w ((f, n, mv, jp, cl, lo, ps, cs, mk, qt, oc), P) HM SM pf pn) : Cl Γ yX7_wipe XX7_wipe 9 0 0 [.ref 43] w (rP (nI pn) (toMD w ((f, n, mv, jp, cl, lo, ps, cs, mk, qt, oc), P) HM SM pf 0)) := by
  refine Cl.of (ls := [some (.ref 43), none]) rfl (by decide +kernel) (fun h => by cases h) (Nat.le_of_ble_eq_true rfl) rfl ?_
  obtain ⟨hk, ⟨z, hz, hG⟩, W, hW⟩ := id hr
  obtain ⟨rm, sp, wr, pa, sl, sv, rd, ho, hpa, hH6, hpH, hsl, hsv, hpS, hpd, hpn, hrd⟩ := id hk
  have hA : zA z f mv oc cs cl mk jp lo qt P := hG.1
  have hP61 := hG.2
  refine r_aload_n 1 dX7_wipe_0 rfl rfl rfl ?_
  refine r_getf 4 dX7_wipe_1 rfl f_X7_174.r (by repeat (first | assumption | refine gs_eq ?_ | refine gs_ne (by omega) ?_ | exact is_of (by assumption) | refine gs_is ?_)) rfl ?_
  refine r_istore_n (ls1 := [_, _]) 5 dX7_wipe_4 rfl (by decide) rfl rfl ?_
  refine r_aload_n 6 dX7_wipe_5 rfl rfl rfl ?_
  refine r_iconst (v := nI 0) 7 dX7_wipe_6 rfl (by decide) ?_
  refine r_putf (fs1 := [_, _, _, _, _, _, _, _, _, _, _, _, _, _, _, _, _, _, _, _]) 10 dX7_wipe_7 rfl f_X7_174 (by repeat (first | assumption | refine gs_eq ?_ | refine gs_ne (by omega) ?_ | exact is_of (by assumption) | refine gs_is ?_)) rfl (by simp only [List.length_cons, List.length_nil]; omega) rfl ?_
  refine r_iload_n 11 dX7_wipe_10 rfl rfl ?_
  refine r_iret dX7_wipe_11 rfl (by decide) (by decide) ?_
  exact ⟨rfl, Fr.st (by unfold mS; decide), ⟨rm, sp, wr, pa, sl, sv, rd, (by repeat (first | assumption | refine gs_eq ?_ | refine gs_ne (by omega) ?_ | exact is_of (by assumption) | refine gs_is ?_)), (by repeat (first | assumption | refine gs_eq ?_ | refine gs_ne (by omega) ?_ | exact is_of (by assumption) | refine gs_is ?_)), hH6, hpH, (by repeat (first | assumption | refine gs_eq ?_ | refine gs_ne (by omega) ?_ | exact is_of (by assumption) | refine gs_is ?_)), (by repeat (first | assumption | refine gs_eq ?_ | refine gs_ne (by omega) ?_ | exact is_of (by assumption) | refine gs_is ?_)), hpS, (by repeat (first | assumption | refine gs_eq ?_ | refine gs_ne (by omega) ?_ | exact is_of (by assumption) | refine gs_is ?_)), by decide, (by repeat (first | assumption | refine gs_eq ?_ | refine gs_ne (by omega) ?_ | exact is_of (by assumption) | refine gs_is ?_))⟩, ⟨z, (by repeat (first | assumption | refine gs_eq ?_ | refine gs_ne (by omega) ?_ | exact is_of (by assumption) | refine gs_is ?_)), hG⟩, W, hW.fr (Fr.st (S := fun q => q = 43) rfl) (fun q a b => by unfold wS at a; omega)⟩

set_option maxRecDepth 100000 in
theorem tX7_step {Γ : CT} {w : PW} {c : PC} {s t : Int32} (h0 : w[43]? = some c) : Cl Γ yX7_step XX7_step 2 0 0 [.ref 43, .int s, .int t] w (if inI s 0 47 = true then (if 0 ≤ t ∧ t < 4 then rI (sqI s t 1) w else rI (-2) w) else rI (-1) w) := by
  refine Cl.of (ls := [some (.ref 43), some (.int s), some (.int t)]) rfl (by decide +kernel) (fun h => by cases h) (Nat.le_of_ble_eq_true rfl) rfl ?_
  refine r_iload_n 1 dX7_step_0 rfl rfl ?_
  refine r_callS0 4 dX7_step_1 rfl (tX7_isSquare) l_X7_149 mX7_isSquare rfl (by decide) (Nat.le_of_ble_eq_true rfl) (by decide) (qI ?_)
  refine r_if_ne 9 7 dX7_step_4 (by decide) rfl (fun q4 => ?_) (fun q4 => ?_)
  · refine r_iload_n 10 dX7_step_9 rfl rfl ?_
    refine r_iconst (v := 0) 11 dX7_step_10 rfl (by decide) ?_
    refine r_iconst (v := 3) 12 dX7_step_11 rfl (by decide) ?_
    refine r_callS0 15 dX7_step_12 rfl (tX7_in) l_X7_61 mX7_in rfl (by decide) (Nat.le_of_ble_eq_true rfl) (by decide) (qI ?_)
    refine r_if_eq 26 18 dX7_step_15 (by decide) rfl (fun q15 => ?_) (fun q15 => ?_)
    · refine r_bipush (v := (-2)) 28 dX7_step_26 rfl (by decide) ?_
      refine r_iret dX7_step_28 rfl (by decide) (by decide) ?_
      rw [if_pos (ne_f q4)]
      first
      | (rw [if_neg (fun z => of_decide_eq_false (bI_0.mp q15) ⟨z.1, i_lt4.mp z.2⟩)]
         exact ⟨rfl, rfl⟩)
      | (have h9 := of_decide_eq_true (ne_f q15)
         rw [if_pos ⟨h9.1, i_lt4.mpr h9.2⟩]
         obtain ⟨j, hj, e1⟩ := inI_ix (n := 47) (by decide) (ne_f q4)
         obtain ⟨k, hk, e2⟩ := inI_ix (n := 3) (by decide) (ne_f q15)
         subst e1
         subst e2
         exact ⟨congrArg (fun v => some (Value.int v)) ((nxI_nx (by omega) (by omega)).trans (sqI_nk (k := 1) (by omega) (by omega) (by decide)).symm), rfl⟩)
    · refine r_iload_n 19 dX7_step_18 rfl rfl ?_
      refine r_iload_n 20 dX7_step_19 rfl rfl ?_
      refine r_callS0 23 dX7_step_20 rfl (tX7_next) l_X7_90 mX7_next rfl (by decide) (Nat.le_of_ble_eq_true rfl) (by decide) (qI ?_)
      refine r_goto 28 dX7_step_23 (by decide) ?_
      refine r_iret dX7_step_28 rfl (by decide) (by decide) ?_
      rw [if_pos (ne_f q4)]
      first
      | (rw [if_neg (fun z => of_decide_eq_false (bI_0.mp q15) ⟨z.1, i_lt4.mp z.2⟩)]
         exact ⟨rfl, rfl⟩)
      | (have h9 := of_decide_eq_true (ne_f q15)
         rw [if_pos ⟨h9.1, i_lt4.mpr h9.2⟩]
         obtain ⟨j, hj, e1⟩ := inI_ix (n := 47) (by decide) (ne_f q4)
         obtain ⟨k, hk, e2⟩ := inI_ix (n := 3) (by decide) (ne_f q15)
         subst e1
         subst e2
         exact ⟨congrArg (fun v => some (Value.int v)) ((nxI_nx (by omega) (by omega)).trans (sqI_nk (k := 1) (by omega) (by omega) (by decide)).symm), rfl⟩)
  · refine r_iconst (v := (-1)) 8 dX7_step_7 rfl (by decide) ?_
    refine r_iret dX7_step_8 rfl (by decide) (by decide) ?_
    rw [if_neg (eq_f q4)]
    exact ⟨rfl, rfl⟩

set_option maxRecDepth 100000 in
theorem tX7_square {Γ : CT} {w : PW} {f n : Nat → Int32} {mv jp : Int32} {cl lo : Nat → Int32} {ps : List T3} {cs mk qt oc : Int32} {P : List P3} {HM : List MG} {SM : Nat → Option MG} {pf : Nat → Int32} {pn : Nat} {s v : Int32} (hr : isMD w ((f, n, mv, jp, cl, lo, ps, cs, mk, qt, oc), P) HM SM pf pn) (hI : GI ((f, n, mv, jp, cl, lo, ps, cs, mk, qt, oc), P)) : Cl Γ yX7_square XX7_square 9 0 0 [.ref 43, .int s, .int v] w (if inI s 0 47 = true then rP (sqrO f mv jp oc s v) (toMD w ((f, n, mv, jp, cl, lo, ps, cs, mk, qt, oc), P) HM SM pf pn) else rI (-1) w) := by
  refine Cl.of (ls := [some (.ref 43), some (.int s), some (.int v)]) rfl (by decide +kernel) (fun h => by cases h) (Nat.le_of_ble_eq_true rfl) rfl ?_
  obtain ⟨hk, ⟨z, hz, hG⟩, W, hW⟩ := id hr
  obtain ⟨rm, sp, wr, pa, sl, sv, rd, ho, hpa, hH6, hpH, hsl, hsv, hpS, hpd, hpn, hrd⟩ := id hk
  have hA : zA z f mv oc cs cl mk jp lo qt P := hG.1
  have hP61 := hG.2
  obtain ⟨hok, hf, hnC, hsL, hjj, hjp, hpP, hPo, hclp, hcsp, hoc0⟩ := id hI
  have hf : okF f := hf
  have hnC : nC f n := hnC
  have hsL : sdL f := hsL
  have hjj : jjO f mv jp := hjj
  have hmv : mv = 0 ∨ mv = 1 := hok.1
  have hpP : ps = P.map t3p := hpP
  have hPo : ∀ p ∈ P, okp3 p := hPo
  refine r_iload_n 1 dX7_square_0 rfl rfl ?_
  refine r_callS0 4 dX7_square_1 rfl (tX7_isSquare) l_X7_149 mX7_isSquare rfl (by decide) (Nat.le_of_ble_eq_true rfl) (by decide) (qI ?_)
  refine r_if_ne 9 7 dX7_square_4 (by decide) rfl (fun q4 => ?_) (fun q4 => ?_)
  · rw [if_pos (ne_f q4)]
    obtain ⟨j, hj47, hsj⟩ := inI_ix (n := 47) (by decide) (ne_f q4)
    subst hsj
    have hj : j < 48 := by omega
    refine r_iload_n 10 dX7_square_9 rfl rfl ?_
    by_cases hs0 : v = 0
    · rw [hs0]
      refine r_sw_in 44 dX7_square_10 (by decide) (by decide) rfl (by decide) ?_
      refine r_aload_n 45 dX7_square_44 rfl rfl rfl ?_
      refine r_getf 48 dX7_square_45 rfl f_X7_7.r (by repeat (first | assumption | refine gs_eq ?_ | refine gs_ne (by omega) ?_ | exact is_of (by assumption) | refine gs_is ?_)) rfl ?_
      refine r_iconst (v := 0) 49 dX7_square_48 rfl (by decide) ?_
      refine r_iload_n 50 dX7_square_49 rfl rfl ?_
      refine r_iadd 51 dX7_square_50 rfl ?_
      refine r_iald 52 dX7_square_51 rfl (j) (by repeat (first | assumption | refine gs_eq ?_ | refine gs_ne (by omega) ?_ | exact is_of (by assumption) | refine gs_is ?_)) (Int32.zero_add _) (by omega) (by decide) ?_
      rw [hA.1 j hj]
      refine r_iret dX7_square_52 rfl (by decide) (by decide) ?_
      exact ⟨by simp [sqrO, pAt_nI hj], hr.rf⟩
    by_cases hs1 : v = 1
    · rw [hs1]
      refine r_sw_in 53 dX7_square_10 (by decide) (by decide) rfl (by decide) ?_
      refine r_iload_n 54 dX7_square_53 rfl rfl ?_
      refine r_callS0 57 dX7_square_54 rfl (tX7_columnOf) l_X7_65 mX7_columnOf rfl (by decide) (Nat.le_of_ble_eq_true rfl) (by decide) (qI ?_)
      refine r_iret dX7_square_57 rfl (by decide) (by decide) ?_
      exact ⟨by simp [sqrO, colI], hr.rf⟩
    by_cases hs2 : v = 2
    · rw [hs2]
      refine r_sw_in 58 dX7_square_10 (by decide) (by decide) rfl (by decide) ?_
      refine r_iload_n 59 dX7_square_58 rfl rfl ?_
      refine r_callS0 62 dX7_square_59 rfl (tX7_rowOf) l_X7_69 mX7_rowOf rfl (by decide) (Nat.le_of_ble_eq_true rfl) (by decide) (qI ?_)
      refine r_iret dX7_square_62 rfl (by decide) (by decide) ?_
      exact ⟨by simp [sqrO], hr.rf⟩
    by_cases hs3 : v = 3
    · rw [hs3]
      refine r_sw_in 63 dX7_square_10 (by decide) (by decide) rfl (by decide) ?_
      refine r_aload_n 64 dX7_square_63 rfl rfl rfl ?_
      refine r_iload_n 65 dX7_square_64 rfl rfl ?_
      refine r_callV0 68 dX7_square_65 rfl (tX7_isInDanger ho hz hA.F hW hf hmv hjj hj) l_X7_162 mX7_isInDanger rfl (by repeat (first | assumption | refine gs_eq ?_ | refine gs_ne (by omega) ?_ | exact is_of (by assumption) | refine gs_is ?_)) rfl (by decide) (Nat.le_of_ble_eq_true rfl) (by decide) (qP fun w1 h1 => ?_)
      obtain ⟨hFL, V, hV⟩ := id h1
      refine r_if_eq 75 71 dX7_square_68 (by decide) rfl (fun q68 => ?_) (fun q68 => ?_)
      · refine r_iconst (v := 0) 76 dX7_square_75 rfl (by decide) ?_
        refine r_iret dX7_square_76 rfl (by decide) (by decide) ?_
        first | exact ⟨by rw [show sqrO f mv jp oc (nI j) 3 = bI (dngO f (nI j)) from by simp [sqrO], ne_f q68]; rfl, hr.lk hFL hV⟩ | exact ⟨by rw [show sqrO f mv jp oc (nI j) 3 = bI (dngO f (nI j)) from by simp [sqrO], bI_0.mp q68]; rfl, hr.lk hFL hV⟩
      · refine r_iconst (v := 1) 72 dX7_square_71 rfl (by decide) ?_
        refine r_goto 76 dX7_square_72 (by decide) ?_
        refine r_iret dX7_square_76 rfl (by decide) (by decide) ?_
        first | exact ⟨by rw [show sqrO f mv jp oc (nI j) 3 = bI (dngO f (nI j)) from by simp [sqrO], ne_f q68]; rfl, hr.lk hFL hV⟩ | exact ⟨by rw [show sqrO f mv jp oc (nI j) 3 = bI (dngO f (nI j)) from by simp [sqrO], bI_0.mp q68]; rfl, hr.lk hFL hV⟩
    by_cases hs4 : v = 4
    · rw [hs4]
      refine r_sw_in 77 dX7_square_10 (by decide) (by decide) rfl (by decide) ?_
      refine r_aload_n 78 dX7_square_77 rfl rfl rfl ?_
      refine r_iload_n 79 dX7_square_78 rfl rfl ?_
      refine r_callV0 82 dX7_square_79 rfl (tX7_hopsFrom ho hz hA.F hW hf hmv hjj) l_X7_165 mX7_hopsFrom rfl (by repeat (first | assumption | refine gs_eq ?_ | refine gs_ne (by omega) ?_ | exact is_of (by assumption) | refine gs_is ?_)) rfl (by decide) (Nat.le_of_ble_eq_true rfl) (by decide) (qP fun w1 h1 => ?_)
      obtain ⟨hFL, V, hV, -⟩ := id h1
      refine r_iret dX7_square_82 rfl (by decide) (by decide) ?_
      exact ⟨by simp [sqrO], hr.lk hFL hV⟩
    have hso : v.toInt < 0 ∨ 4 < v.toInt := sw_out5 hs0 hs1 hs2 hs3 hs4
    refine r_sw_out 83 dX7_square_10 hso (by decide) ?_
    refine r_bipush (v := (-2)) 85 dX7_square_83 rfl (by decide) ?_
    refine r_iret dX7_square_85 rfl (by decide) (by decide) ?_
    exact ⟨by simp [sqrO, *], hr.rf⟩
  · refine r_iconst (v := (-1)) 8 dX7_square_7 rfl (by decide) ?_
    refine r_iret dX7_square_8 rfl (by decide) (by decide) ?_
    rw [if_neg (eq_f q4)]
    exact ⟨rfl, rfl⟩

set_option maxRecDepth 100000 in
theorem tX7_ofHop {Γ : CT} {w : PW} {f n : Nat → Int32} {mv jp : Int32} {cl lo : Nat → Int32} {ps : List T3} {cs mk qt oc : Int32} {P : List P3} {HM : List MG} {SM : Nat → Option MG} {pf : Nat → Int32} {pn : Nat} {x v : Int32} (hr : isMD w ((f, n, mv, jp, cl, lo, ps, cs, mk, qt, oc), P) HM SM pf pn) (hI : GI ((f, n, mv, jp, cl, lo, ps, cs, mk, qt, oc), P)) : Cl Γ yX7_ofHop XX7_ofHop 9 0 0 [.ref 43, .int x, .int v] w (fun r w1 => if hasO (hopsN f mv jp oc) x = true then (∃ q, (hopsN f mv jp oc)[x.toNatClampNeg]? = some q ∧ rP (ofhO f mv q v) (toMD w ((f, n, mv, jp, cl, lo, ps, cs, mk, qt, oc), P) HM SM pf pn) r w1) else rP (-1) (toMD w ((f, n, mv, jp, cl, lo, ps, cs, mk, qt, oc), P) HM SM pf pn) r w1) := by
  refine Cl.of (ls := [some (.ref 43), some (.int x), some (.int v)]) rfl (by decide +kernel) (fun h => by cases h) (Nat.le_of_ble_eq_true rfl) rfl ?_
  obtain ⟨hk, ⟨z, hz, hG⟩, W, hW⟩ := id hr
  obtain ⟨rm, sp, wr, pa, sl, sv, rd, ho, hpa, hH6, hpH, hsl, hsv, hpS, hpd, hpn, hrd⟩ := id hk
  have hA : zA z f mv oc cs cl mk jp lo qt P := hG.1
  have hP61 := hG.2
  obtain ⟨hok, hf, hnC, hsL, hjj, hjp, hpP, hPo, hclp, hcsp, hoc0⟩ := id hI
  have hf : okF f := hf
  have hnC : nC f n := hnC
  have hsL : sdL f := hsL
  have hjj : jjO f mv jp := hjj
  have hmv : mv = 0 ∨ mv = 1 := hok.1
  have hpP : ps = P.map t3p := hpP
  have hPo : ∀ p ∈ P, okp3 p := hPo
  refine r_aload_n 1 dX7_ofHop_0 rfl rfl rfl ?_
  refine r_callV0 4 dX7_ofHop_1 rfl (tX7_look ho hz hA.F hW hf hmv hjj) l_X7_124 mX7_look rfl (by repeat (first | assumption | refine gs_eq ?_ | refine gs_ne (by omega) ?_ | exact is_of (by assumption) | refine gs_is ?_)) rfl (by decide) (Nat.le_of_ble_eq_true rfl) (by decide) (qN fun w1 h1 => ?_)
  obtain ⟨hFL, V, hV, hb, hsV, hc0, hl⟩ := id h1
  have oV := (hFL.2 43 (by unfold wS; omega)).trans ho
  obtain ⟨v49, v50, v51, v52, v53, v54, v55, v56, v57⟩ := id hV
  have eh := hl.2.1
  have hl192 := hl.1
  refine r_iload_n 5 dX7_ofHop_4 rfl rfl ?_
  refine r_iconst (v := 0) 6 dX7_ofHop_5 rfl (by decide) ?_
  refine r_aload_n 7 dX7_ofHop_6 rfl rfl rfl ?_
  refine r_getf 10 dX7_ofHop_7 rfl f_X7_36.r (by repeat (first | assumption | refine gs_eq ?_ | refine gs_ne (by omega) ?_ | exact is_of (by assumption) | refine gs_is ?_)) rfl ?_
  refine r_iconst (v := 0) 11 dX7_ofHop_10 rfl (by decide) ?_
  refine r_iald 12 dX7_ofHop_11 rfl (0) (by repeat (first | assumption | refine gs_eq ?_ | refine gs_ne (by omega) ?_ | exact is_of (by assumption) | refine gs_is ?_)) rfl (by decide) (by decide) ?_
  rw [eh]
  refine r_iconst (v := 1) 13 dX7_ofHop_12 rfl (by decide) ?_
  refine r_isub 14 dX7_ofHop_13 rfl ?_
  refine r_callS0 17 dX7_ofHop_14 rfl (tX7_in) l_X7_61 mX7_in rfl (by decide) (Nat.le_of_ble_eq_true rfl) (by decide) (qI ?_)
  rw [inI_has (by omega)]
  refine r_if_ne 22 20 dX7_ofHop_17 (by decide) rfl (fun q17 => ?_) (fun q17 => ?_)
  · have hx := ne_f q17
    obtain ⟨j, hjl, hj⟩ := hasO_ix (by omega) hx
    subst hj
    obtain ⟨q, hq⟩ : ∃ q, (hopsN f mv jp oc)[j]? = some q := ⟨(hopsN f mv jp oc)[j], List.getElem?_eq_getElem hjl⟩
    obtain ⟨e1, e2, e3, e4, e5⟩ := hl.2.2 j q hq
    have hqm := List.mem_of_getElem? hq
    have hoc := hopsN_z hqm
    have hqc : q ∈ hopsC f mv jp := by
      unfold hopsN at hqm
      rw [if_pos hoc] at hqm
      exact hqm
    have hgq := hopsC_go hmv hqc
    refine r_iload_n 23 dX7_ofHop_22 rfl rfl ?_
    by_cases hs0 : v = 0
    · rw [hs0]
      refine r_sw_in 64 dX7_ofHop_23 (by decide) (by decide) rfl (by decide) ?_
      refine r_aload_n 65 dX7_ofHop_64 rfl rfl rfl ?_
      refine r_getf 68 dX7_ofHop_65 rfl f_X7_39.r (by repeat (first | assumption | refine gs_eq ?_ | refine gs_ne (by omega) ?_ | exact is_of (by assumption) | refine gs_is ?_)) rfl ?_
      refine r_iload_n 69 dX7_ofHop_68 rfl rfl ?_
      refine r_iald 70 dX7_ofHop_69 rfl (1500 * 0 + j) (by repeat (first | assumption | refine gs_eq ?_ | refine gs_ne (by omega) ?_ | exact is_of (by assumption) | refine gs_is ?_)) (by rw [Nat.mul_zero, Nat.zero_add]) (by omega) (by decide) ?_
      rw [e1]
      refine r_iret dX7_ofHop_70 rfl (by decide) (by decide) ?_
      rw [if_pos hx]
      exact ⟨q, by rw [nI_clamp (by omega)]; exact hq, by simp [ofhO], hr.lk hFL hV⟩
    by_cases hs1 : v = 1
    · rw [hs1]
      refine r_sw_in 71 dX7_ofHop_23 (by decide) (by decide) rfl (by decide) ?_
      refine r_aload_n 72 dX7_ofHop_71 rfl rfl rfl ?_
      refine r_getf 75 dX7_ofHop_72 rfl f_X7_48.r (by repeat (first | assumption | refine gs_eq ?_ | refine gs_ne (by omega) ?_ | exact is_of (by assumption) | refine gs_is ?_)) rfl ?_
      refine r_iload_n 76 dX7_ofHop_75 rfl rfl ?_
      refine r_iald 77 dX7_ofHop_76 rfl (1500 * 0 + j) (by repeat (first | assumption | refine gs_eq ?_ | refine gs_ne (by omega) ?_ | exact is_of (by assumption) | refine gs_is ?_)) (by rw [Nat.mul_zero, Nat.zero_add]) (by omega) (by decide) ?_
      rw [e4]
      refine r_iret dX7_ofHop_77 rfl (by decide) (by decide) ?_
      rw [if_pos hx]
      exact ⟨q, by rw [nI_clamp (by omega)]; exact hq, by simp [ofhO], hr.lk hFL hV⟩
    by_cases hs2 : v = 2
    · rw [hs2]
      refine r_sw_in 78 dX7_ofHop_23 (by decide) (by decide) rfl (by decide) ?_
      refine r_aload_n 79 dX7_ofHop_78 rfl rfl rfl ?_
      refine r_getf 82 dX7_ofHop_79 rfl f_X7_42.r (by repeat (first | assumption | refine gs_eq ?_ | refine gs_ne (by omega) ?_ | exact is_of (by assumption) | refine gs_is ?_)) rfl ?_
      refine r_iload_n 83 dX7_ofHop_82 rfl rfl ?_
      refine r_iald 84 dX7_ofHop_83 rfl (1500 * 0 + j) (by repeat (first | assumption | refine gs_eq ?_ | refine gs_ne (by omega) ?_ | exact is_of (by assumption) | refine gs_is ?_)) (by rw [Nat.mul_zero, Nat.zero_add]) (by omega) (by decide) ?_
      rw [e2]
      refine r_iret dX7_ofHop_84 rfl (by decide) (by decide) ?_
      rw [if_pos hx]
      exact ⟨q, by rw [nI_clamp (by omega)]; exact hq, by simp [ofhO], hr.lk hFL hV⟩
    by_cases hs3 : v = 3
    · rw [hs3]
      refine r_sw_in 85 dX7_ofHop_23 (by decide) (by decide) rfl (by decide) ?_
      refine r_aload_n 86 dX7_ofHop_85 rfl rfl rfl ?_
      refine r_getf 89 dX7_ofHop_86 rfl f_X7_45.r (by repeat (first | assumption | refine gs_eq ?_ | refine gs_ne (by omega) ?_ | exact is_of (by assumption) | refine gs_is ?_)) rfl ?_
      refine r_iload_n 90 dX7_ofHop_89 rfl rfl ?_
      refine r_iald 91 dX7_ofHop_90 rfl (1500 * 0 + j) (by repeat (first | assumption | refine gs_eq ?_ | refine gs_ne (by omega) ?_ | exact is_of (by assumption) | refine gs_is ?_)) (by rw [Nat.mul_zero, Nat.zero_add]) (by omega) (by decide) ?_
      rw [e3]
      refine r_iret dX7_ofHop_91 rfl (by decide) (by decide) ?_
      rw [if_pos hx]
      exact ⟨q, by rw [nI_clamp (by omega)]; exact hq, by simp [ofhO], hr.lk hFL hV⟩
    by_cases hs4 : v = 4
    · rw [hs4]
      refine r_sw_in 92 dX7_ofHop_23 (by decide) (by decide) rfl (by decide) ?_
      refine r_aload_n 93 dX7_ofHop_92 rfl rfl rfl ?_
      refine r_getf 96 dX7_ofHop_93 rfl f_X7_51.r (by repeat (first | assumption | refine gs_eq ?_ | refine gs_ne (by omega) ?_ | exact is_of (by assumption) | refine gs_is ?_)) rfl ?_
      refine r_iload_n 97 dX7_ofHop_96 rfl rfl ?_
      refine r_iald 98 dX7_ofHop_97 rfl (1500 * 0 + j) (by repeat (first | assumption | refine gs_eq ?_ | refine gs_ne (by omega) ?_ | exact is_of (by assumption) | refine gs_is ?_)) (by rw [Nat.mul_zero, Nat.zero_add]) (by omega) (by decide) ?_
      rw [e5]
      refine r_iret dX7_ofHop_98 rfl (by decide) (by decide) ?_
      rw [if_pos hx]
      exact ⟨q, by rw [nI_clamp (by omega)]; exact hq, by simp [ofhO], hr.lk hFL hV⟩
    by_cases hs5 : v = 5
    · rw [hs5]
      refine r_sw_in 99 dX7_ofHop_23 (by decide) (by decide) rfl (by decide) ?_
      refine r_aload_n 100 dX7_ofHop_99 rfl rfl rfl ?_
      refine r_iconst (v := nI 0) 101 dX7_ofHop_100 rfl (by decide) ?_
      refine r_iload_n 102 dX7_ofHop_101 rfl rfl ?_
      refine r_callV0 105 dX7_ofHop_102 rfl (tX7_becomesKing oV hV hb hl (by decide) hq hgq.1) l_X7_114 mX7_becomesKing rfl (by repeat (first | assumption | refine gs_eq ?_ | refine gs_ne (by omega) ?_ | exact is_of (by assumption) | refine gs_is ?_)) rfl (by decide) (Nat.le_of_ble_eq_true rfl) (by decide) (qI ?_)
      refine r_if_eq 112 108 dX7_ofHop_105 (by decide) rfl (fun q105 => ?_) (fun q105 => ?_)
      · refine r_iconst (v := 0) 113 dX7_ofHop_112 rfl (by decide) ?_
        refine r_iret dX7_ofHop_113 rfl (by decide) (by decide) ?_
        rw [if_pos hx]
        first
        | exact ⟨q, by rw [nI_clamp (by omega)]; exact hq, by rw [show ofhO f mv q 5 = bI (crO (f q.1) (nI q.1) (nI q.2.2.2.1)) from by simp [ofhO], ne_f q105]; rfl, hr.lk hFL hV⟩
        | exact ⟨q, by rw [nI_clamp (by omega)]; exact hq, by rw [show ofhO f mv q 5 = bI (crO (f q.1) (nI q.1) (nI q.2.2.2.1)) from by simp [ofhO], bI_0.mp q105]; rfl, hr.lk hFL hV⟩
      · refine r_iconst (v := 1) 109 dX7_ofHop_108 rfl (by decide) ?_
        refine r_goto 113 dX7_ofHop_109 (by decide) ?_
        refine r_iret dX7_ofHop_113 rfl (by decide) (by decide) ?_
        rw [if_pos hx]
        first
        | exact ⟨q, by rw [nI_clamp (by omega)]; exact hq, by rw [show ofhO f mv q 5 = bI (crO (f q.1) (nI q.1) (nI q.2.2.2.1)) from by simp [ofhO], ne_f q105]; rfl, hr.lk hFL hV⟩
        | exact ⟨q, by rw [nI_clamp (by omega)]; exact hq, by rw [show ofhO f mv q 5 = bI (crO (f q.1) (nI q.1) (nI q.2.2.2.1)) from by simp [ofhO], bI_0.mp q105]; rfl, hr.lk hFL hV⟩
    by_cases hs6 : v = 6
    · rw [hs6]
      refine r_sw_in 114 dX7_ofHop_23 (by decide) (by decide) rfl (by decide) ?_
      refine r_aload_n 115 dX7_ofHop_114 rfl rfl rfl ?_
      refine r_iload_n 116 dX7_ofHop_115 rfl rfl ?_
      refine r_callV0 119 dX7_ofHop_116 rfl (tX7_goesOn oV hV hb hl hq hgq hf hsV hmv) l_X7_168 mX7_goesOn rfl (by repeat (first | assumption | refine gs_eq ?_ | refine gs_ne (by omega) ?_ | exact is_of (by assumption) | refine gs_is ?_)) rfl (by decide) (Nat.le_of_ble_eq_true rfl) (by decide) (qP fun w2 h2 => ?_)
      obtain ⟨hF2, V2, hV2⟩ := h2
      refine r_iret dX7_ofHop_119 rfl (by decide) (by decide) ?_
      rw [if_pos hx]
      exact ⟨q, by rw [nI_clamp (by omega)]; exact hq, by simp [ofhO], hr.lk (hFL.tr hF2) hV2⟩
    have hso : v.toInt < 0 ∨ 6 < v.toInt := sw_out7 hs0 hs1 hs2 hs3 hs4 hs5 hs6
    refine r_sw_out 120 dX7_ofHop_23 hso (by decide) ?_
    refine r_bipush (v := (-2)) 122 dX7_ofHop_120 rfl (by decide) ?_
    refine r_iret dX7_ofHop_122 rfl (by decide) (by decide) ?_
    rw [if_pos hx]
    exact ⟨q, by rw [nI_clamp (by omega)]; exact hq, by simp [ofhO, *], hr.lk hFL hV⟩
  · refine r_iconst (v := (-1)) 21 dX7_ofHop_20 rfl (by decide) ?_
    refine r_iret dX7_ofHop_21 rfl (by decide) (by decide) ?_
    rw [if_neg (eq_f q17)]
    exact ⟨rfl, hr.lk hFL hV⟩

theorem tX7_piecesI {Γ : CT} {w : PW} {pm ty rm sp wr : Int32} {z f : Nat → Int32} {sd kd : Nat} {k : Int32} (ho : w[43]? = some (oM pm ty rm sp wr)) (hz : w[44]? = some (aI 431 z)) (hz0 : ∀ s, s < 48 → z s = f s) (hk : k = nI kd) : Cl Γ yX7_pieces XX7_pieces 0 0 0 [.ref 43, .int (nI sd), .int k] w (rI (nI (pcK f (2 * sd + kd) 48)) w) := by
  subst hk
  exact tX7_pieces ho hz hz0
set_option maxRecDepth 100000 in
theorem tX7_side {Γ : CT} {w : PW} {f n : Nat → Int32} {mv jp : Int32} {cl lo : Nat → Int32} {ps : List T3} {cs mk qt oc : Int32} {P : List P3} {HM : List MG} {SM : Nat → Option MG} {pf : Nat → Int32} {pn : Nat} {s v : Int32} (hr : isMD w ((f, n, mv, jp, cl, lo, ps, cs, mk, qt, oc), P) HM SM pf pn) (hI : GI ((f, n, mv, jp, cl, lo, ps, cs, mk, qt, oc), P)) : Cl Γ yX7_side XX7_side 9 0 0 [.ref 43, .int s, .int v] w (if s = 0 ∨ s = 1 then rI (sidO n cl lo s v) w else rI (-2) w) := by
  refine Cl.of (ls := [some (.ref 43), some (.int s), some (.int v)]) rfl (by decide +kernel) (fun h => by cases h) (Nat.le_of_ble_eq_true rfl) rfl ?_
  obtain ⟨hk, ⟨z, hz, hG⟩, W, hW⟩ := id hr
  obtain ⟨rm, sp, wr, pa, sl, sv, rd, ho, hpa, hH6, hpH, hsl, hsv, hpS, hpd, hpn, hrd⟩ := id hk
  have hA : zA z f mv oc cs cl mk jp lo qt P := hG.1
  have hP61 := hG.2
  obtain ⟨hok, hf, hnC, hsL, hjj, hjp, hpP, hPo, hclp, hcsp, hoc0⟩ := id hI
  have hf : okF f := hf
  have hnC : nC f n := hnC
  have hsL : sdL f := hsL
  have hjj : jjO f mv jp := hjj
  have hmv : mv = 0 ∨ mv = 1 := hok.1
  have hpP : ps = P.map t3p := hpP
  have hPo : ∀ p ∈ P, okp3 p := hPo
  refine r_iload_n 1 dX7_side_0 rfl rfl ?_
  refine r_iconst (v := 0) 2 dX7_side_1 rfl (by decide) ?_
  refine r_iconst (v := 1) 3 dX7_side_2 rfl (by decide) ?_
  refine r_callS0 6 dX7_side_3 rfl (tX7_in) l_X7_61 mX7_in rfl (by decide) (Nat.le_of_ble_eq_true rfl) (by decide) (qI ?_)
  refine r_if_ne 12 9 dX7_side_6 (by decide) rfl (fun q6 => ?_) (fun q6 => ?_)
  · have hs01 : s = 0 ∨ s = 1 := of_decide_eq_true (inI_s ▸ ne_f q6)
    rw [if_pos hs01]
    obtain ⟨m, hm, hsm, hcm⟩ := side_ix hs01
    subst hsm
    have hmc := men_C hnC hm
    have hcl : z (51 + m) = cl m := by
      rcases side_m hm with rfl | rfl
      · exact hA.2.2.2.2.1
      · exact hA.2.2.2.2.2.1
    have hlo : z (55 + m) = lo m := by
      rcases side_m hm with rfl | rfl
      · exact hA.2.2.2.2.2.2.2.2.1
      · exact hA.2.2.2.2.2.2.2.2.2.1
    refine r_iload_n 13 dX7_side_12 rfl rfl ?_
    by_cases hs0 : v = 0
    · rw [hs0]
      refine r_sw_in 48 dX7_side_13 (by decide) (by decide) rfl (by decide) ?_
      refine r_aload_n 49 dX7_side_48 rfl rfl rfl ?_
      refine r_iload_n 50 dX7_side_49 rfl rfl ?_
      refine r_iload_n 51 dX7_side_50 rfl rfl ?_
      refine r_callV0 54 dX7_side_51 rfl (tX7_piecesI (kd := v.toNatClampNeg) ho hz hA.1 (by first | (rw [hs0]; rfl) | (rw [hs1]; rfl))) l_X7_143 mX7_pieces rfl (by repeat (first | assumption | refine gs_eq ?_ | refine gs_ne (by omega) ?_ | exact is_of (by assumption) | refine gs_is ?_)) rfl (by decide) (Nat.le_of_ble_eq_true rfl) (by decide) (qI ?_)
      refine r_iret dX7_side_54 rfl (by decide) (by decide) ?_
      first | exact ⟨by rw [show sidO n cl lo (nI m) 0 = menO n (nI m) from by simp [sidO], hmc.1, hs0]; rfl, rfl⟩ | exact ⟨by rw [show sidO n cl lo (nI m) 1 = kngO n (nI m) from by simp [sidO], hmc.2, hs1]; rfl, rfl⟩
    by_cases hs1 : v = 1
    · rw [hs1]
      refine r_sw_in 48 dX7_side_13 (by decide) (by decide) rfl (by decide) ?_
      refine r_aload_n 49 dX7_side_48 rfl rfl rfl ?_
      refine r_iload_n 50 dX7_side_49 rfl rfl ?_
      refine r_iload_n 51 dX7_side_50 rfl rfl ?_
      refine r_callV0 54 dX7_side_51 rfl (tX7_piecesI (kd := v.toNatClampNeg) ho hz hA.1 (by first | (rw [hs0]; rfl) | (rw [hs1]; rfl))) l_X7_143 mX7_pieces rfl (by repeat (first | assumption | refine gs_eq ?_ | refine gs_ne (by omega) ?_ | exact is_of (by assumption) | refine gs_is ?_)) rfl (by decide) (Nat.le_of_ble_eq_true rfl) (by decide) (qI ?_)
      refine r_iret dX7_side_54 rfl (by decide) (by decide) ?_
      first | exact ⟨by rw [show sidO n cl lo (nI m) 0 = menO n (nI m) from by simp [sidO], hmc.1, hs0]; rfl, rfl⟩ | exact ⟨by rw [show sidO n cl lo (nI m) 1 = kngO n (nI m) from by simp [sidO], hmc.2, hs1]; rfl, rfl⟩
    by_cases hs2 : v = 2
    · rw [hs2]
      refine r_sw_in 55 dX7_side_13 (by decide) (by decide) rfl (by decide) ?_
      refine r_aload_n 56 dX7_side_55 rfl rfl rfl ?_
      refine r_getf 59 dX7_side_56 rfl f_X7_7.r (by repeat (first | assumption | refine gs_eq ?_ | refine gs_ne (by omega) ?_ | exact is_of (by assumption) | refine gs_is ?_)) rfl ?_
      refine r_bipush (v := nI 51) 61 dX7_side_59 rfl (by decide) ?_
      refine r_iload_n 62 dX7_side_61 rfl rfl ?_
      refine r_iadd 63 dX7_side_62 rfl ?_
      rw [nI_add]
      refine r_iald 64 dX7_side_63 rfl (51 + m) (by repeat (first | assumption | refine gs_eq ?_ | refine gs_ne (by omega) ?_ | exact is_of (by assumption) | refine gs_is ?_)) rfl (by omega) (by decide) ?_
      rw [hcl]
      refine r_iret dX7_side_64 rfl (by decide) (by decide) ?_
      exact ⟨by rw [show sidO n cl lo (nI m) 2 = cl (nI m).toNatClampNeg from by simp [sidO], hcm], rfl⟩
    by_cases hs3 : v = 3
    · rw [hs3]
      refine r_sw_in 65 dX7_side_13 (by decide) (by decide) rfl (by decide) ?_
      refine r_aload_n 66 dX7_side_65 rfl rfl rfl ?_
      refine r_getf 69 dX7_side_66 rfl f_X7_7.r (by repeat (first | assumption | refine gs_eq ?_ | refine gs_ne (by omega) ?_ | exact is_of (by assumption) | refine gs_is ?_)) rfl ?_
      refine r_bipush (v := nI 55) 71 dX7_side_69 rfl (by decide) ?_
      refine r_iload_n 72 dX7_side_71 rfl rfl ?_
      refine r_iadd 73 dX7_side_72 rfl ?_
      rw [nI_add]
      refine r_iald 74 dX7_side_73 rfl (55 + m) (by repeat (first | assumption | refine gs_eq ?_ | refine gs_ne (by omega) ?_ | exact is_of (by assumption) | refine gs_is ?_)) rfl (by omega) (by decide) ?_
      rw [hlo]
      refine r_iret dX7_side_74 rfl (by decide) (by decide) ?_
      exact ⟨by rw [show sidO n cl lo (nI m) 3 = lo (nI m).toNatClampNeg from by simp [sidO], hcm], rfl⟩
    by_cases hs4 : v = 4
    · rw [hs4]
      refine r_sw_in 75 dX7_side_13 (by decide) (by decide) rfl (by decide) ?_
      refine r_aload_n 76 dX7_side_75 rfl rfl rfl ?_
      refine r_iload_n 77 dX7_side_76 rfl rfl ?_
      refine r_iconst (v := nI 0) 78 dX7_side_77 rfl (by decide) ?_
      refine r_callV0 81 dX7_side_78 rfl (tX7_pieces (kd := 0) ho hz hA.1) l_X7_143 mX7_pieces rfl (by repeat (first | assumption | refine gs_eq ?_ | refine gs_ne (by omega) ?_ | exact is_of (by assumption) | refine gs_is ?_)) rfl (by decide) (Nat.le_of_ble_eq_true rfl) (by decide) (qI ?_)
      refine r_iconst (v := 3) 82 dX7_side_81 rfl (by decide) ?_
      refine r_aload_n 83 dX7_side_82 rfl rfl rfl ?_
      refine r_iload_n 84 dX7_side_83 rfl rfl ?_
      refine r_iconst (v := nI 1) 85 dX7_side_84 rfl (by decide) ?_
      refine r_callV0 88 dX7_side_85 rfl (tX7_pieces (kd := 1) ho hz hA.1) l_X7_143 mX7_pieces rfl (by repeat (first | assumption | refine gs_eq ?_ | refine gs_ne (by omega) ?_ | exact is_of (by assumption) | refine gs_is ?_)) rfl (by decide) (Nat.le_of_ble_eq_true rfl) (by decide) (qI ?_)
      refine r_imul 89 dX7_side_88 rfl ?_
      refine r_iadd 90 dX7_side_89 rfl ?_
      refine r_iret dX7_side_90 rfl (by decide) (by decide) ?_
      exact ⟨by rw [show sidO n cl lo (nI m) 4 = menO n (nI m) + 3 * kngO n (nI m) from by simp [sidO], hmc.1, hmc.2]; rfl, rfl⟩
    have hso : v.toInt < 0 ∨ 4 < v.toInt := sw_out5 hs0 hs1 hs2 hs3 hs4
    refine r_sw_out 91 dX7_side_13 hso (by decide) ?_
    refine r_bipush (v := (-2)) 93 dX7_side_91 rfl (by decide) ?_
    refine r_iret dX7_side_93 rfl (by decide) (by decide) ?_
    exact ⟨by simp [sidO, *], rfl⟩
  · refine r_bipush (v := (-2)) 11 dX7_side_9 rfl (by decide) ?_
    refine r_iret dX7_side_11 rfl (by decide) (by decide) ?_
    rw [if_neg (of_decide_eq_false (inI_s ▸ bI_0.mp q6))]
    exact ⟨rfl, rfl⟩

set_option maxRecDepth 100000 in
theorem tX7_count {Γ : CT} {w : PW} {f n : Nat → Int32} {mv jp : Int32} {cl lo : Nat → Int32} {ps : List T3} {cs mk qt oc : Int32} {P : List P3} {HM : List MG} {SM : Nat → Option MG} {pf : Nat → Int32} {pn : Nat} {v : Int32} (hr : isMD w ((f, n, mv, jp, cl, lo, ps, cs, mk, qt, oc), P) HM SM pf pn) (hI : GI ((f, n, mv, jp, cl, lo, ps, cs, mk, qt, oc), P)) : Cl Γ yX7_count XX7_count 9 0 0 [.ref 43, .int v] w (rP (cntO f mv jp ps cs mk qt oc pn HM.length v) (toMD w ((f, n, mv, jp, cl, lo, ps, cs, mk, qt, oc), P) HM SM pf pn)) := by
  refine Cl.of (ls := [some (.ref 43), some (.int v)]) rfl (by decide +kernel) (fun h => by cases h) (Nat.le_of_ble_eq_true rfl) rfl ?_
  obtain ⟨hk, ⟨z, hz, hG⟩, W, hW⟩ := id hr
  obtain ⟨rm, sp, wr, pa, sl, sv, rd, ho, hpa, hH6, hpH, hsl, hsv, hpS, hpd, hpn, hrd⟩ := id hk
  have hA : zA z f mv oc cs cl mk jp lo qt P := hG.1
  have hP61 := hG.2
  obtain ⟨hok, hf, hnC, hsL, hjj, hjp, hpP, hPo, hclp, hcsp, hoc0⟩ := id hI
  have hf : okF f := hf
  have hnC : nC f n := hnC
  have hsL : sdL f := hsL
  have hjj : jjO f mv jp := hjj
  have hmv : mv = 0 ∨ mv = 1 := hok.1
  have hpP : ps = P.map t3p := hpP
  have hPo : ∀ p ∈ P, okp3 p := hPo
  refine r_iload_n 1 dX7_count_0 rfl rfl ?_
  by_cases hs0 : v = 0
  · rw [hs0]
    refine r_sw_in 56 dX7_count_1 (by decide) (by decide) rfl (by decide) ?_
    refine r_aload_n 57 dX7_count_56 rfl rfl rfl ?_
    refine r_getf 60 dX7_count_57 rfl f_X7_7.r (by repeat (first | assumption | refine gs_eq ?_ | refine gs_ne (by omega) ?_ | exact is_of (by assumption) | refine gs_is ?_)) rfl ?_
    refine r_bipush (v := 49) 62 dX7_count_60 rfl (by decide) ?_
    refine r_iald 63 dX7_count_62 rfl (49) (by repeat (first | assumption | refine gs_eq ?_ | refine gs_ne (by omega) ?_ | exact is_of (by assumption) | refine gs_is ?_)) rfl (by decide) (by decide) ?_
    rw [hA.2.2.1]
    refine r_iret dX7_count_63 rfl (by decide) (by decide) ?_
    exact ⟨by rw [show cntO f mv jp ps cs mk qt oc pn HM.length 0 = oc from by simp [cntO]], hr.rf⟩
  by_cases hs1 : v = 1
  · rw [hs1]
    refine r_sw_in 64 dX7_count_1 (by decide) (by decide) rfl (by decide) ?_
    refine r_aload_n 65 dX7_count_64 rfl rfl rfl ?_
    refine r_getf 68 dX7_count_65 rfl f_X7_7.r (by repeat (first | assumption | refine gs_eq ?_ | refine gs_ne (by omega) ?_ | exact is_of (by assumption) | refine gs_is ?_)) rfl ?_
    refine r_bipush (v := 48) 70 dX7_count_68 rfl (by decide) ?_
    refine r_iald 71 dX7_count_70 rfl (48) (by repeat (first | assumption | refine gs_eq ?_ | refine gs_ne (by omega) ?_ | exact is_of (by assumption) | refine gs_is ?_)) rfl (by decide) (by decide) ?_
    rw [hA.2.1]
    refine r_iret dX7_count_71 rfl (by decide) (by decide) ?_
    exact ⟨by rw [show cntO f mv jp ps cs mk qt oc pn HM.length 1 = mv from by simp [cntO]], hr.rf⟩
  by_cases hs2 : v = 2
  · rw [hs2]
    refine r_sw_in 72 dX7_count_1 (by decide) (by decide) rfl (by decide) ?_
    refine r_aload_n 73 dX7_count_72 rfl rfl rfl ?_
    refine r_callV0 76 dX7_count_73 rfl (tX7_hopsNow ho hz hA.F hW hf hmv hjj) l_X7_171 mX7_hopsNow rfl (by repeat (first | assumption | refine gs_eq ?_ | refine gs_ne (by omega) ?_ | exact is_of (by assumption) | refine gs_is ?_)) rfl (by decide) (Nat.le_of_ble_eq_true rfl) (by decide) (qP fun w1 h1 => ?_)
    obtain ⟨hFL, V, hV, -⟩ := id h1
    refine r_iret dX7_count_76 rfl (by decide) (by decide) ?_
    exact ⟨by rw [show cntO f mv jp ps cs mk qt oc pn HM.length 2 = nI (hopsN f mv jp oc).length from by simp [cntO]], hr.lk hFL hV⟩
  by_cases hs3 : v = 3
  · rw [hs3]
    refine r_sw_in 77 dX7_count_1 (by decide) (by decide) rfl (by decide) ?_
    refine r_aload_n 78 dX7_count_77 rfl rfl rfl ?_
    refine r_getf 81 dX7_count_78 rfl f_X7_7.r (by repeat (first | assumption | refine gs_eq ?_ | refine gs_ne (by omega) ?_ | exact is_of (by assumption) | refine gs_is ?_)) rfl ?_
    refine r_bipush (v := 53) 83 dX7_count_81 rfl (by decide) ?_
    refine r_iald 84 dX7_count_83 rfl (53) (by repeat (first | assumption | refine gs_eq ?_ | refine gs_ne (by omega) ?_ | exact is_of (by assumption) | refine gs_is ?_)) rfl (by decide) (by decide) ?_
    rw [hA.2.2.2.2.2.2.1]
    refine r_iret dX7_count_84 rfl (by decide) (by decide) ?_
    exact ⟨by rw [show cntO f mv jp ps cs mk qt oc pn HM.length 3 = mk from by simp [cntO]], hr.rf⟩
  by_cases hs4 : v = 4
  · rw [hs4]
    refine r_sw_in 85 dX7_count_1 (by decide) (by decide) rfl (by decide) ?_
    refine r_aload_n 86 dX7_count_85 rfl rfl rfl ?_
    refine r_getf 89 dX7_count_86 rfl f_X7_7.r (by repeat (first | assumption | refine gs_eq ?_ | refine gs_ne (by omega) ?_ | exact is_of (by assumption) | refine gs_is ?_)) rfl ?_
    refine r_bipush (v := 54) 91 dX7_count_89 rfl (by decide) ?_
    refine r_iald 92 dX7_count_91 rfl (54) (by repeat (first | assumption | refine gs_eq ?_ | refine gs_ne (by omega) ?_ | exact is_of (by assumption) | refine gs_is ?_)) rfl (by decide) (by decide) ?_
    rw [hA.2.2.2.2.2.2.2.1]
    refine r_iret dX7_count_92 rfl (by decide) (by decide) ?_
    exact ⟨by rw [show cntO f mv jp ps cs mk qt oc pn HM.length 4 = jp from by simp [cntO]], hr.rf⟩
  by_cases hs5 : v = 5
  · rw [hs5]
    refine r_sw_in 93 dX7_count_1 (by decide) (by decide) rfl (by decide) ?_
    obtain ⟨ll, hll⟩ : ∃ l, P[P.length - 1]? = some l := ⟨P[P.length - 1]'(by have h9 : 1 ≤ ps.length := hok.2.1; rw [hpP, List.length_map] at h9; omega), List.getElem?_eq_getElem _⟩
    refine r_aload_n 94 dX7_count_93 rfl rfl rfl ?_
    refine r_callV0 97 dX7_count_94 rfl (tX7_timesCome ho hz hA hP61 hll) l_X7_127 mX7_timesCome rfl (by repeat (first | assumption | refine gs_eq ?_ | refine gs_ne (by omega) ?_ | exact is_of (by assumption) | refine gs_is ?_)) rfl (by decide) (Nat.le_of_ble_eq_true rfl) (by decide) (qI ?_)
    refine r_iret dX7_count_97 rfl (by decide) (by decide) ?_
    exact ⟨by rw [show cntO f mv jp ps cs mk qt oc pn HM.length 5 = nI (tmN ps) from by simp [cntO], hpP, tmN_enc hPo hll], hr.rf⟩
  by_cases hs6 : v = 6
  · rw [hs6]
    refine r_sw_in 98 dX7_count_1 (by decide) (by decide) rfl (by decide) ?_
    refine r_aload_n 99 dX7_count_98 rfl rfl rfl ?_
    refine r_getf 102 dX7_count_99 rfl f_X7_7.r (by repeat (first | assumption | refine gs_eq ?_ | refine gs_ne (by omega) ?_ | exact is_of (by assumption) | refine gs_is ?_)) rfl ?_
    refine r_bipush (v := 57) 104 dX7_count_102 rfl (by decide) ?_
    refine r_iald 105 dX7_count_104 rfl (57) (by repeat (first | assumption | refine gs_eq ?_ | refine gs_ne (by omega) ?_ | exact is_of (by assumption) | refine gs_is ?_)) rfl (by decide) (by decide) ?_
    rw [hA.2.2.2.2.2.2.2.2.2.2.1]
    refine r_iret dX7_count_105 rfl (by decide) (by decide) ?_
    exact ⟨by rw [show cntO f mv jp ps cs mk qt oc pn HM.length 6 = qt from by simp [cntO]], hr.rf⟩
  by_cases hs7 : v = 7
  · rw [hs7]
    refine r_sw_in 106 dX7_count_1 (by decide) (by decide) rfl (by decide) ?_
    refine r_aload_n 107 dX7_count_106 rfl rfl rfl ?_
    refine r_getf 110 dX7_count_107 rfl f_X7_7.r (by repeat (first | assumption | refine gs_eq ?_ | refine gs_ne (by omega) ?_ | exact is_of (by assumption) | refine gs_is ?_)) rfl ?_
    refine r_bipush (v := 50) 112 dX7_count_110 rfl (by decide) ?_
    refine r_iald 113 dX7_count_112 rfl (50) (by repeat (first | assumption | refine gs_eq ?_ | refine gs_ne (by omega) ?_ | exact is_of (by assumption) | refine gs_is ?_)) rfl (by decide) (by decide) ?_
    rw [hA.2.2.2.1]
    refine r_iret dX7_count_113 rfl (by decide) (by decide) ?_
    exact ⟨by rw [show cntO f mv jp ps cs mk qt oc pn HM.length 7 = cs from by simp [cntO]], hr.rf⟩
  by_cases hs8 : v = 8
  · rw [hs8]
    refine r_sw_in 114 dX7_count_1 (by decide) (by decide) rfl (by decide) ?_
    refine r_aload_n 115 dX7_count_114 rfl rfl rfl ?_
    refine r_getf 118 dX7_count_115 rfl f_X7_174.r (by repeat (first | assumption | refine gs_eq ?_ | refine gs_ne (by omega) ?_ | exact is_of (by assumption) | refine gs_is ?_)) rfl ?_
    refine r_iret dX7_count_118 rfl (by decide) (by decide) ?_
    exact ⟨by rw [show cntO f mv jp ps cs mk qt oc pn HM.length 8 = nI pn from by simp [cntO]], hr.rf⟩
  by_cases hs9 : v = 9
  · rw [hs9]
    refine r_sw_in 119 dX7_count_1 (by decide) (by decide) rfl (by decide) ?_
    refine r_aload_n 120 dX7_count_119 rfl rfl rfl ?_
    refine r_getf 123 dX7_count_120 rfl f_X7_72.r (by repeat (first | assumption | refine gs_eq ?_ | refine gs_ne (by omega) ?_ | exact is_of (by assumption) | refine gs_is ?_)) rfl ?_
    refine r_iret dX7_count_123 rfl (by decide) (by decide) ?_
    exact ⟨by rw [show cntO f mv jp ps cs mk qt oc pn HM.length 9 = nI HM.length from by simp [cntO]], hr.rf⟩
  have hso : v.toInt < 0 ∨ 9 < v.toInt := sw_out10 hs0 hs1 hs2 hs3 hs4 hs5 hs6 hs7 hs8 hs9
  refine r_sw_out 124 dX7_count_1 hso (by decide) ?_
  refine r_bipush (v := (-2)) 126 dX7_count_124 rfl (by decide) ?_
  refine r_iret dX7_count_126 rfl (by decide) (by decide) ?_
  exact ⟨by simp [cntO, *], hr.rf⟩

