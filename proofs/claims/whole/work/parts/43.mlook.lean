/-! ===== the model: the look at the board of now ===== -/
def zF (z f : Nat → Int32) (mv jp oc : Int32) : Prop := (∀ s, s < 48 → z s = f s) ∧ z 48 = mv ∧ z 54 = jp ∧ z 49 = oc
def inLk (V : MW) (f : Nat → Int32) (mv jp oc : Int32) : Prop := bdA V 0 f ∧ V.2.1 0 = mv ∧ V.2.2.1 0 = jp ∧ lsA V 0 (hopsN f mv jp oc)
def toLk (w : PW) (f : Nat → Int32) (mv jp oc : Int32) : PW → Prop := fun w1 => Fr w w1 wS ∧ ∃ V, isW w1 V ∧ inLk V f mv jp oc
set_option maxRecDepth 100000 in
theorem tX7_look {Γ : CT} {w : PW} {pm ty rm sp wr : Int32} {W : MW} {z f : Nat → Int32} {mv jp oc : Int32} (ho : w[43]? = some (oM pm ty rm sp wr)) (hz : w[44]? = some (aI 431 z)) (hzf : zF z f mv jp oc) (hW : isW w W) (hf : okF f) (hmv : mv = 0 ∨ mv = 1) (hjj : jjO f mv jp) : Cl Γ yX7_look XX7_look 5 0 0 [.ref 43] w (rN (toLk w f mv jp oc)) := by
  have loop : ∀ (m i : Nat) (u : PW) (E : Nat → Int32), i + m = 48 → (Fr w u wS) → (isW u (E, W.2.1, W.2.2.1, W.2.2.2.1, W.2.2.2.2.1, W.2.2.2.2.2.1, W.2.2.2.2.2.2.1, W.2.2.2.2.2.2.2.1, W.2.2.2.2.2.2.2.2)) → (∀ s, s < i → E s = f s) → Rn Γ XX7_look (rmO 5 0 0) none (FinM (rN (toLk w f mv jp oc)) 0 0) 0 0 u 2 [some (.ref 43), some (.int (nI i))] [] := by
    intro m
    induction m with
    | zero =>
      intro i u E hi hF hU hE
      have h48 : i = 48 := by omega
      subst h48
      obtain ⟨u49, u50, u51, u52, u53, u54, u55, u56, u57⟩ : u[49]? = some (aI 192 E) ∧ u[50]? = some (aI 4 W.2.1) ∧ u[51]? = some (aI 4 W.2.2.1) ∧ u[52]? = some (aI 4 W.2.2.2.1) ∧ u[53]? = some (aI 6000 W.2.2.2.2.1) ∧ u[54]? = some (aI 6000 W.2.2.2.2.2.1) ∧ u[55]? = some (aI 6000 W.2.2.2.2.2.2.1) ∧ u[56]? = some (aI 6000 W.2.2.2.2.2.2.2.1) ∧ u[57]? = some (aI 6000 W.2.2.2.2.2.2.2.2) := id hU
      have oU := (hF.2 43 (by unfold wS; omega)).trans ho
      have zU := (hF.2 44 (by unfold wS; omega)).trans hz
      refine r_iload_n 3 dX7_look_2 rfl rfl ?_
      refine r_bipush (v := nI 48) 5 dX7_look_3 rfl (by decide) ?_
      refine r_icmp_ge 28 8 dX7_look_5 (by decide) rfl (fun q5 => ?_) (fun q5 => absurd q5 (fun z => z (nI_le (by omega) (by omega))))
      refine r_aload_n 29 dX7_look_28 rfl rfl rfl ?_
      refine r_getf 32 dX7_look_29 rfl f_X7_30.r (by repeat (first | assumption | refine gs_eq ?_ | refine gs_ne (by omega) ?_ | exact is_of (by assumption) | refine gs_is ?_)) rfl ?_
      refine r_iconst (v := 0) 33 dX7_look_32 rfl (by decide) ?_
      refine r_aload_n 34 dX7_look_33 rfl rfl rfl ?_
      refine r_getf 37 dX7_look_34 rfl f_X7_7.r (by repeat (first | assumption | refine gs_eq ?_ | refine gs_ne (by omega) ?_ | exact is_of (by assumption) | refine gs_is ?_)) rfl ?_
      refine r_bipush (v := 48) 39 dX7_look_37 rfl (by decide) ?_
      refine r_iald 40 dX7_look_39 rfl (48) (by repeat (first | assumption | refine gs_eq ?_ | refine gs_ne (by omega) ?_ | exact is_of (by assumption) | refine gs_is ?_)) rfl (by decide) (by decide) ?_
      rw [hzf.2.1]
      refine r_iast 41 dX7_look_40 rfl (0) (by repeat (first | assumption | refine gs_eq ?_ | refine gs_ne (by omega) ?_ | exact is_of (by assumption) | refine gs_is ?_)) rfl (by decide) (by decide) ?_
      refine r_aload_n 42 dX7_look_41 rfl rfl rfl ?_
      refine r_getf 45 dX7_look_42 rfl f_X7_33.r (by repeat (first | assumption | refine gs_eq ?_ | refine gs_ne (by omega) ?_ | exact is_of (by assumption) | refine gs_is ?_)) rfl ?_
      refine r_iconst (v := 0) 46 dX7_look_45 rfl (by decide) ?_
      refine r_aload_n 47 dX7_look_46 rfl rfl rfl ?_
      refine r_getf 50 dX7_look_47 rfl f_X7_7.r (by repeat (first | assumption | refine gs_eq ?_ | refine gs_ne (by omega) ?_ | exact is_of (by assumption) | refine gs_is ?_)) rfl ?_
      refine r_bipush (v := 54) 52 dX7_look_50 rfl (by decide) ?_
      refine r_iald 53 dX7_look_52 rfl (54) (by repeat (first | assumption | refine gs_eq ?_ | refine gs_ne (by omega) ?_ | exact is_of (by assumption) | refine gs_is ?_)) rfl (by decide) (by decide) ?_
      rw [hzf.2.2.1]
      refine r_iast 54 dX7_look_53 rfl (0) (by repeat (first | assumption | refine gs_eq ?_ | refine gs_ne (by omega) ?_ | exact is_of (by assumption) | refine gs_is ?_)) rfl (by decide) (by decide) ?_
      refine r_aload_n 55 dX7_look_54 rfl rfl rfl ?_
      refine r_iconst (v := 0) 56 dX7_look_55 rfl (by decide) ?_
      have hb2 : bdA (E, upd W.2.1 0 mv, upd W.2.2.1 0 jp, W.2.2.2.1, W.2.2.2.2.1, W.2.2.2.2.2.1, W.2.2.2.2.2.2.1, W.2.2.2.2.2.2.2.1, W.2.2.2.2.2.2.2.2) 0 f := fun s hs => by rw [Nat.mul_zero, Nat.zero_add]; exact hE s hs
      refine r_callV0 59 dX7_look_56 rfl (tX7_listHops (L := 0) (mv := mv) (jp := jp) (by repeat (first | assumption | refine gs_eq ?_ | refine gs_ne (by omega) ?_ | exact is_of (by assumption) | refine gs_is ?_)) ⟨(by repeat (first | assumption | refine gs_eq ?_ | refine gs_ne (by omega) ?_ | exact is_of (by assumption) | refine gs_is ?_)), (by repeat (first | assumption | refine gs_eq ?_ | refine gs_ne (by omega) ?_ | exact is_of (by assumption) | refine gs_is ?_)), (by repeat (first | assumption | refine gs_eq ?_ | refine gs_ne (by omega) ?_ | exact is_of (by assumption) | refine gs_is ?_)), (by repeat (first | assumption | refine gs_eq ?_ | refine gs_ne (by omega) ?_ | exact is_of (by assumption) | refine gs_is ?_)), (by repeat (first | assumption | refine gs_eq ?_ | refine gs_ne (by omega) ?_ | exact is_of (by assumption) | refine gs_is ?_)), (by repeat (first | assumption | refine gs_eq ?_ | refine gs_ne (by omega) ?_ | exact is_of (by assumption) | refine gs_is ?_)), (by repeat (first | assumption | refine gs_eq ?_ | refine gs_ne (by omega) ?_ | exact is_of (by assumption) | refine gs_is ?_)), (by repeat (first | assumption | refine gs_eq ?_ | refine gs_ne (by omega) ?_ | exact is_of (by assumption) | refine gs_is ?_)), (by repeat (first | assumption | refine gs_eq ?_ | refine gs_ne (by omega) ?_ | exact is_of (by assumption) | refine gs_is ?_))⟩ hb2 hf (by decide) (show upd W.2.1 0 mv 0 = mv from pk_us) (show upd W.2.2.1 0 jp 0 = jp from pk_us) hmv hjj) l_X7_117 mX7_listHops rfl (by repeat (first | assumption | refine gs_eq ?_ | refine gs_ne (by omega) ?_ | exact is_of (by assumption) | refine gs_is ?_)) rfl (by decide) (Nat.le_of_ble_eq_true rfl) (by decide) (qN fun w1 hk => ?_)
      obtain ⟨hF2, V, hV, hl, hs⟩ := hk
      have oV := (hF2.2 43 (by unfold wS; omega)).trans ((by repeat (first | assumption | refine gs_eq ?_ | refine gs_ne (by omega) ?_ | exact is_of (by assumption) | refine gs_is ?_)) : _ = some (oM pm ty rm sp wr))
      have zV := (hF2.2 44 (by unfold wS; omega)).trans ((by repeat (first | assumption | refine gs_eq ?_ | refine gs_ne (by omega) ?_ | exact is_of (by assumption) | refine gs_is ?_)) : _ = some (aI 431 z))
      obtain ⟨v49, v50, v51, v52, v53, v54, v55, v56, v57⟩ := id hV
      have hFall : Fr w w1 wS := Fr.tr (by repeat (first | assumption | refine Fr.tr ?_ (Fr.st (by unfold wS; decide)))) hF2
      have s0 : V.2.1 0 = mv := by rw [hs.2.1]; exact (show upd W.2.1 0 mv 0 = mv from pk_us)
      have s1 : V.2.2.1 0 = jp := by rw [hs.2.2.1]; exact (show upd W.2.2.1 0 jp 0 = jp from pk_us)
      have s2 : bdA V 0 f := fun s hs48 => by rw [hs.1]; exact (by rw [Nat.mul_zero, Nat.zero_add]; exact hE s hs48)
      refine r_aload_n 60 dX7_look_59 rfl rfl rfl ?_
      refine r_getf 63 dX7_look_60 rfl f_X7_7.r (by repeat (first | assumption | refine gs_eq ?_ | refine gs_ne (by omega) ?_ | exact is_of (by assumption) | refine gs_is ?_)) rfl ?_
      refine r_bipush (v := 49) 65 dX7_look_63 rfl (by decide) ?_
      refine r_iald 66 dX7_look_65 rfl (49) (by repeat (first | assumption | refine gs_eq ?_ | refine gs_ne (by omega) ?_ | exact is_of (by assumption) | refine gs_is ?_)) rfl (by decide) (by decide) ?_
      rw [hzf.2.2.2]
      refine r_if_eq 76 69 dX7_look_66 (by decide) rfl (fun q66 => ?_) (fun q66 => ?_)
      · refine r_vret dX7_look_76 rfl (by decide) (by decide) ?_
        first
        | exact ⟨rfl, hFall, V, hV, s2, s0, s1, by unfold hopsN; rw [if_pos q66]; exact hl⟩
        | exact ⟨rfl, Fr.tr hFall (Fr.st (by unfold wS; decide)), (V.1, V.2.1, V.2.2.1, upd V.2.2.2.1 0 0, V.2.2.2.2.1, V.2.2.2.2.2.1, V.2.2.2.2.2.2.1, V.2.2.2.2.2.2.2.1, V.2.2.2.2.2.2.2.2), ⟨(by repeat (first | assumption | refine gs_eq ?_ | refine gs_ne (by omega) ?_ | exact is_of (by assumption) | refine gs_is ?_)), (by repeat (first | assumption | refine gs_eq ?_ | refine gs_ne (by omega) ?_ | exact is_of (by assumption) | refine gs_is ?_)), (by repeat (first | assumption | refine gs_eq ?_ | refine gs_ne (by omega) ?_ | exact is_of (by assumption) | refine gs_is ?_)), (by repeat (first | assumption | refine gs_eq ?_ | refine gs_ne (by omega) ?_ | exact is_of (by assumption) | refine gs_is ?_)), (by repeat (first | assumption | refine gs_eq ?_ | refine gs_ne (by omega) ?_ | exact is_of (by assumption) | refine gs_is ?_)), (by repeat (first | assumption | refine gs_eq ?_ | refine gs_ne (by omega) ?_ | exact is_of (by assumption) | refine gs_is ?_)), (by repeat (first | assumption | refine gs_eq ?_ | refine gs_ne (by omega) ?_ | exact is_of (by assumption) | refine gs_is ?_)), (by repeat (first | assumption | refine gs_eq ?_ | refine gs_ne (by omega) ?_ | exact is_of (by assumption) | refine gs_is ?_)), (by repeat (first | assumption | refine gs_eq ?_ | refine gs_ne (by omega) ?_ | exact is_of (by assumption) | refine gs_is ?_))⟩, s2, s0, s1, by unfold hopsN; rw [if_neg q66]; exact lsA.nil.1⟩
      · refine r_aload_n 70 dX7_look_69 rfl rfl rfl ?_
        refine r_getf 73 dX7_look_70 rfl f_X7_36.r (by repeat (first | assumption | refine gs_eq ?_ | refine gs_ne (by omega) ?_ | exact is_of (by assumption) | refine gs_is ?_)) rfl ?_
        refine r_iconst (v := 0) 74 dX7_look_73 rfl (by decide) ?_
        refine r_iconst (v := 0) 75 dX7_look_74 rfl (by decide) ?_
        refine r_iast 76 dX7_look_75 rfl (0) (by repeat (first | assumption | refine gs_eq ?_ | refine gs_ne (by omega) ?_ | exact is_of (by assumption) | refine gs_is ?_)) rfl (by decide) (by decide) ?_
        refine r_vret dX7_look_76 rfl (by decide) (by decide) ?_
        first
        | exact ⟨rfl, hFall, V, hV, s2, s0, s1, by unfold hopsN; rw [if_pos q66]; exact hl⟩
        | exact ⟨rfl, Fr.tr hFall (Fr.st (by unfold wS; decide)), (V.1, V.2.1, V.2.2.1, upd V.2.2.2.1 0 0, V.2.2.2.2.1, V.2.2.2.2.2.1, V.2.2.2.2.2.2.1, V.2.2.2.2.2.2.2.1, V.2.2.2.2.2.2.2.2), ⟨(by repeat (first | assumption | refine gs_eq ?_ | refine gs_ne (by omega) ?_ | exact is_of (by assumption) | refine gs_is ?_)), (by repeat (first | assumption | refine gs_eq ?_ | refine gs_ne (by omega) ?_ | exact is_of (by assumption) | refine gs_is ?_)), (by repeat (first | assumption | refine gs_eq ?_ | refine gs_ne (by omega) ?_ | exact is_of (by assumption) | refine gs_is ?_)), (by repeat (first | assumption | refine gs_eq ?_ | refine gs_ne (by omega) ?_ | exact is_of (by assumption) | refine gs_is ?_)), (by repeat (first | assumption | refine gs_eq ?_ | refine gs_ne (by omega) ?_ | exact is_of (by assumption) | refine gs_is ?_)), (by repeat (first | assumption | refine gs_eq ?_ | refine gs_ne (by omega) ?_ | exact is_of (by assumption) | refine gs_is ?_)), (by repeat (first | assumption | refine gs_eq ?_ | refine gs_ne (by omega) ?_ | exact is_of (by assumption) | refine gs_is ?_)), (by repeat (first | assumption | refine gs_eq ?_ | refine gs_ne (by omega) ?_ | exact is_of (by assumption) | refine gs_is ?_)), (by repeat (first | assumption | refine gs_eq ?_ | refine gs_ne (by omega) ?_ | exact is_of (by assumption) | refine gs_is ?_))⟩, s2, s0, s1, by unfold hopsN; rw [if_neg q66]; exact lsA.nil.1⟩
    | succ m ih =>
      intro i u E hi hF hU hE
      obtain ⟨u49, u50, u51, u52, u53, u54, u55, u56, u57⟩ : u[49]? = some (aI 192 E) ∧ u[50]? = some (aI 4 W.2.1) ∧ u[51]? = some (aI 4 W.2.2.1) ∧ u[52]? = some (aI 4 W.2.2.2.1) ∧ u[53]? = some (aI 6000 W.2.2.2.2.1) ∧ u[54]? = some (aI 6000 W.2.2.2.2.2.1) ∧ u[55]? = some (aI 6000 W.2.2.2.2.2.2.1) ∧ u[56]? = some (aI 6000 W.2.2.2.2.2.2.2.1) ∧ u[57]? = some (aI 6000 W.2.2.2.2.2.2.2.2) := id hU
      have oU := (hF.2 43 (by unfold wS; omega)).trans ho
      have zU := (hF.2 44 (by unfold wS; omega)).trans hz
      refine r_iload_n 3 dX7_look_2 rfl rfl ?_
      refine r_bipush (v := nI 48) 5 dX7_look_3 rfl (by decide) ?_
      refine r_icmp_ge 28 8 dX7_look_5 (by decide) rfl (fun q5 => absurd q5 (nI_ge (by omega) (by omega))) (fun q5 => ?_)
      refine r_aload_n 9 dX7_look_8 rfl rfl rfl ?_
      refine r_getf 12 dX7_look_9 rfl f_X7_27.r (by repeat (first | assumption | refine gs_eq ?_ | refine gs_ne (by omega) ?_ | exact is_of (by assumption) | refine gs_is ?_)) rfl ?_
      refine r_iload_n 13 dX7_look_12 rfl rfl ?_
      refine r_aload_n 14 dX7_look_13 rfl rfl rfl ?_
      refine r_getf 17 dX7_look_14 rfl f_X7_7.r (by repeat (first | assumption | refine gs_eq ?_ | refine gs_ne (by omega) ?_ | exact is_of (by assumption) | refine gs_is ?_)) rfl ?_
      refine r_iconst (v := 0) 18 dX7_look_17 rfl (by decide) ?_
      refine r_iload_n 19 dX7_look_18 rfl rfl ?_
      refine r_iadd 20 dX7_look_19 rfl ?_
      refine r_iald 21 dX7_look_20 rfl (i) (by repeat (first | assumption | refine gs_eq ?_ | refine gs_ne (by omega) ?_ | exact is_of (by assumption) | refine gs_is ?_)) (Int32.zero_add _) (by omega) (by decide) ?_
      rw [hzf.1 i (by omega)]
      refine r_iast 22 dX7_look_21 rfl (i) (by repeat (first | assumption | refine gs_eq ?_ | refine gs_ne (by omega) ?_ | exact is_of (by assumption) | refine gs_is ?_)) rfl (by omega) (by decide) ?_
      refine r_iinc (ls1 := [_, _]) 25 dX7_look_22 rfl (by decide) rfl rfl (nI_1 i) rfl ?_
      refine r_goto 2 dX7_look_25 (by decide) ?_
      refine ih (i + 1) _ (upd E i (f i)) (by omega) (Fr.tr hF (Fr.st (by unfold wS; decide))) ⟨(by repeat (first | assumption | refine gs_eq ?_ | refine gs_ne (by omega) ?_ | exact is_of (by assumption) | refine gs_is ?_)), (by repeat (first | assumption | refine gs_eq ?_ | refine gs_ne (by omega) ?_ | exact is_of (by assumption) | refine gs_is ?_)), (by repeat (first | assumption | refine gs_eq ?_ | refine gs_ne (by omega) ?_ | exact is_of (by assumption) | refine gs_is ?_)), (by repeat (first | assumption | refine gs_eq ?_ | refine gs_ne (by omega) ?_ | exact is_of (by assumption) | refine gs_is ?_)), (by repeat (first | assumption | refine gs_eq ?_ | refine gs_ne (by omega) ?_ | exact is_of (by assumption) | refine gs_is ?_)), (by repeat (first | assumption | refine gs_eq ?_ | refine gs_ne (by omega) ?_ | exact is_of (by assumption) | refine gs_is ?_)), (by repeat (first | assumption | refine gs_eq ?_ | refine gs_ne (by omega) ?_ | exact is_of (by assumption) | refine gs_is ?_)), (by repeat (first | assumption | refine gs_eq ?_ | refine gs_ne (by omega) ?_ | exact is_of (by assumption) | refine gs_is ?_)), (by repeat (first | assumption | refine gs_eq ?_ | refine gs_ne (by omega) ?_ | exact is_of (by assumption) | refine gs_is ?_))⟩ (fun s hs => ?_)
      rcases Nat.lt_or_ge s i with h | h
      · exact (pk_un (by omega)).trans (hE s h)
      · rw [show s = i by omega]
        exact pk_us
  refine Cl.of (ls := [some (.ref 43), none]) rfl (by decide +kernel) (fun h => by cases h) (Nat.le_of_ble_eq_true rfl) rfl ?_
  refine r_iconst (v := nI 0) 1 dX7_look_0 rfl (by decide) ?_
  refine r_istore_n (ls1 := [_, _]) 2 dX7_look_1 rfl (by decide) rfl rfl ?_
  exact loop 48 0 w W.1 (by omega) Fr.rf hW (fun s hs => by omega)

set_option maxRecDepth 100000 in
theorem tX7_hopFrom {Γ : CT} {w : PW} {pm ty rm sp wr : Int32} {W : MW} {z f : Nat → Int32} {mv jp oc : Int32} {x y : Int32} (ho : w[43]? = some (oM pm ty rm sp wr)) (hz : w[44]? = some (aI 431 z)) (hzf : zF z f mv jp oc) (hW : isW w W) (hf : okF f) (hmv : mv = 0 ∨ mv = 1) (hjj : jjO f mv jp) : Cl Γ yX7_hopFrom XX7_hopFrom 6 0 0 [.ref 43, .int x, .int y] w (rP (fI (isFT x y) (hopsN f mv jp oc) 0) (toLk w f mv jp oc)) := by
  refine Cl.of (ls := [some (.ref 43), some (.int x), some (.int y), none]) rfl (by decide +kernel) (fun h => by cases h) (Nat.le_of_ble_eq_true rfl) rfl ?_
  refine r_aload_n 1 dX7_hopFrom_0 rfl rfl rfl ?_
  refine r_callV0 4 dX7_hopFrom_1 rfl (tX7_look ho hz hzf hW hf hmv hjj) l_X7_124 mX7_look rfl (by repeat (first | assumption | refine gs_eq ?_ | refine gs_ne (by omega) ?_ | exact is_of (by assumption) | refine gs_is ?_)) rfl (by decide) (Nat.le_of_ble_eq_true rfl) (by decide) (qN fun w1 h1 => ?_)
  obtain ⟨hF1, V, hV, hb, hs0, hc0, hl⟩ := id h1
  have oV := (hF1.2 43 (by unfold wS; omega)).trans ho
  have zV := (hF1.2 44 (by unfold wS; omega)).trans hz
  obtain ⟨v49, v50, v51, v52, v53, v54, v55, v56, v57⟩ := id hV
  have eh := hl.2.1
  have hl192 := hl.1
  have loop : ∀ (m i : Nat) , i + m = (hopsN f mv jp oc).length → (fI (isFT x y) ((hopsN f mv jp oc).drop i) i = fI (isFT x y) (hopsN f mv jp oc) 0) → Rn Γ XX7_hopFrom (rmO 6 0 0) none (FinM (rP (fI (isFT x y) (hopsN f mv jp oc) 0) (toLk w f mv jp oc)) 0 0) 0 0 w1 6 [some (.ref 43), some (.int x), some (.int y), some (.int (nI i))] [] := by
    intro m
    induction m with
    | zero =>
      intro i  hi hu
      have h9 : i = (hopsN f mv jp oc).length := by omega
      subst h9
      refine r_iload_n 7 dX7_hopFrom_6 rfl rfl ?_
      refine r_aload_n 8 dX7_hopFrom_7 rfl rfl rfl ?_
      refine r_getf 11 dX7_hopFrom_8 rfl f_X7_36.r (by repeat (first | assumption | refine gs_eq ?_ | refine gs_ne (by omega) ?_ | exact is_of (by assumption) | refine gs_is ?_)) rfl ?_
      refine r_iconst (v := 0) 12 dX7_hopFrom_11 rfl (by decide) ?_
      refine r_iald 13 dX7_hopFrom_12 rfl (0) (by repeat (first | assumption | refine gs_eq ?_ | refine gs_ne (by omega) ?_ | exact is_of (by assumption) | refine gs_is ?_)) rfl (by decide) (by decide) ?_
      rw [eh]
      refine r_icmp_ge 44 16 dX7_hopFrom_13 (by decide) rfl (fun q13 => ?_) (fun q13 => absurd q13 (fun z => z (nI_le (by omega) (by omega))))
      refine r_bipush (v := (-6)) 46 dX7_hopFrom_44 rfl (by decide) ?_
      refine r_iret dX7_hopFrom_46 rfl (by decide) (by decide) ?_
      exact ⟨by rw [← hu, List.drop_length]; rfl, h1⟩
    | succ m ih =>
      intro i  hi hu
      obtain ⟨q, hq, hd⟩ := drop_c (l := hopsN f mv jp oc) (i := i) (by omega)
      obtain ⟨e1, e2, e3, e4, e5⟩ := hl.2.2 i q hq
      rw [hd, fI] at hu
      refine r_iload_n 7 dX7_hopFrom_6 rfl rfl ?_
      refine r_aload_n 8 dX7_hopFrom_7 rfl rfl rfl ?_
      refine r_getf 11 dX7_hopFrom_8 rfl f_X7_36.r (by repeat (first | assumption | refine gs_eq ?_ | refine gs_ne (by omega) ?_ | exact is_of (by assumption) | refine gs_is ?_)) rfl ?_
      refine r_iconst (v := 0) 12 dX7_hopFrom_11 rfl (by decide) ?_
      refine r_iald 13 dX7_hopFrom_12 rfl (0) (by repeat (first | assumption | refine gs_eq ?_ | refine gs_ne (by omega) ?_ | exact is_of (by assumption) | refine gs_is ?_)) rfl (by decide) (by decide) ?_
      rw [eh]
      refine r_icmp_ge 44 16 dX7_hopFrom_13 (by decide) rfl (fun q13 => absurd q13 (nI_ge (by omega) (by omega))) (fun q13 => ?_)
      refine r_aload_n 17 dX7_hopFrom_16 rfl rfl rfl ?_
      refine r_getf 20 dX7_hopFrom_17 rfl f_X7_39.r (by repeat (first | assumption | refine gs_eq ?_ | refine gs_ne (by omega) ?_ | exact is_of (by assumption) | refine gs_is ?_)) rfl ?_
      refine r_iload_n 21 dX7_hopFrom_20 rfl rfl ?_
      refine r_iald 22 dX7_hopFrom_21 rfl (1500 * 0 + i) (by repeat (first | assumption | refine gs_eq ?_ | refine gs_ne (by omega) ?_ | exact is_of (by assumption) | refine gs_is ?_)) (by rw [Nat.mul_zero, Nat.zero_add]) (by omega) (by decide) ?_
      rw [e1]
      refine r_iload_n 23 dX7_hopFrom_22 rfl rfl ?_
      refine r_icmp_ne 38 26 dX7_hopFrom_23 (by decide) rfl (fun q23 => ?_) (fun q23 => ?_)
      · refine r_iinc (ls1 := [_, _, _, _]) 41 dX7_hopFrom_38 rfl (by decide) rfl rfl (nI_1 i) rfl ?_
        refine r_goto 6 dX7_hopFrom_41 (by decide) ?_
        exact ih (i + 1) (by omega) (by rw [← hu, if_neg (by first | (rw [isFT, decide_eq_false q23]; simp) | (rw [isFT, decide_eq_false q33]; simp))])
      · refine r_aload_n 27 dX7_hopFrom_26 rfl rfl rfl ?_
        refine r_getf 30 dX7_hopFrom_27 rfl f_X7_48.r (by repeat (first | assumption | refine gs_eq ?_ | refine gs_ne (by omega) ?_ | exact is_of (by assumption) | refine gs_is ?_)) rfl ?_
        refine r_iload_n 31 dX7_hopFrom_30 rfl rfl ?_
        refine r_iald 32 dX7_hopFrom_31 rfl (1500 * 0 + i) (by repeat (first | assumption | refine gs_eq ?_ | refine gs_ne (by omega) ?_ | exact is_of (by assumption) | refine gs_is ?_)) (by rw [Nat.mul_zero, Nat.zero_add]) (by omega) (by decide) ?_
        rw [e4]
        refine r_iload_n 33 dX7_hopFrom_32 rfl rfl ?_
        refine r_icmp_ne 38 36 dX7_hopFrom_33 (by decide) rfl (fun q33 => ?_) (fun q33 => ?_)
        · refine r_iinc (ls1 := [_, _, _, _]) 41 dX7_hopFrom_38 rfl (by decide) rfl rfl (nI_1 i) rfl ?_
          refine r_goto 6 dX7_hopFrom_41 (by decide) ?_
          exact ih (i + 1) (by omega) (by rw [← hu, if_neg (by first | (rw [isFT, decide_eq_false q23]; simp) | (rw [isFT, decide_eq_false q33]; simp))])
        · refine r_iload_n 37 dX7_hopFrom_36 rfl rfl ?_
          refine r_iret dX7_hopFrom_37 rfl (by decide) (by decide) ?_
          exact ⟨by rw [← hu, if_pos (by rw [isFT, decide_eq_true q23, decide_eq_true q33]; rfl)], h1⟩
  refine r_iconst (v := nI 0) 5 dX7_hopFrom_4 rfl (by decide) ?_
  refine r_istore_n (ls1 := [_, _, _, _]) 6 dX7_hopFrom_5 rfl (by decide) rfl rfl ?_
  exact loop (hopsN f mv jp oc).length 0 (by omega) rfl

set_option maxRecDepth 100000 in
theorem tX7_hopsFrom {Γ : CT} {w : PW} {pm ty rm sp wr : Int32} {W : MW} {z f : Nat → Int32} {mv jp oc : Int32} {x : Int32} (ho : w[43]? = some (oM pm ty rm sp wr)) (hz : w[44]? = some (aI 431 z)) (hzf : zF z f mv jp oc) (hW : isW w W) (hf : okF f) (hmv : mv = 0 ∨ mv = 1) (hjj : jjO f mv jp) : Cl Γ yX7_hopsFrom XX7_hopsFrom 6 0 0 [.ref 43, .int x] w (rP (nI ((hopsN f mv jp oc).countP (fun q => decide (nI q.1 = x)))) (toLk w f mv jp oc)) := by
  refine Cl.of (ls := [some (.ref 43), some (.int x), none, none]) rfl (by decide +kernel) (fun h => by cases h) (Nat.le_of_ble_eq_true rfl) rfl ?_
  refine r_aload_n 1 dX7_hopsFrom_0 rfl rfl rfl ?_
  refine r_callV0 4 dX7_hopsFrom_1 rfl (tX7_look ho hz hzf hW hf hmv hjj) l_X7_124 mX7_look rfl (by repeat (first | assumption | refine gs_eq ?_ | refine gs_ne (by omega) ?_ | exact is_of (by assumption) | refine gs_is ?_)) rfl (by decide) (Nat.le_of_ble_eq_true rfl) (by decide) (qN fun w1 h1 => ?_)
  obtain ⟨hF1, V, hV, hb, hs0, hc0, hl⟩ := id h1
  have oV := (hF1.2 43 (by unfold wS; omega)).trans ho
  have zV := (hF1.2 44 (by unfold wS; omega)).trans hz
  obtain ⟨v49, v50, v51, v52, v53, v54, v55, v56, v57⟩ := id hV
  have eh := hl.2.1
  have hl192 := hl.1
  have loop : ∀ (m i : Nat) (c : Nat), i + m = (hopsN f mv jp oc).length → (c + ((hopsN f mv jp oc).drop i).countP (fun q => decide (nI q.1 = x)) = (hopsN f mv jp oc).countP (fun q => decide (nI q.1 = x))) → Rn Γ XX7_hopsFrom (rmO 6 0 0) none (FinM (rP (nI ((hopsN f mv jp oc).countP (fun q => decide (nI q.1 = x)))) (toLk w f mv jp oc)) 0 0) 0 0 w1 8 [some (.ref 43), some (.int x), some (.int (nI c)), some (.int (nI i))] [] := by
    intro m
    induction m with
    | zero =>
      intro i c hi hu
      have h9 : i = (hopsN f mv jp oc).length := by omega
      subst h9
      rw [List.drop_length] at hu
      refine r_iload_n 9 dX7_hopsFrom_8 rfl rfl ?_
      refine r_aload_n 10 dX7_hopsFrom_9 rfl rfl rfl ?_
      refine r_getf 13 dX7_hopsFrom_10 rfl f_X7_36.r (by repeat (first | assumption | refine gs_eq ?_ | refine gs_ne (by omega) ?_ | exact is_of (by assumption) | refine gs_is ?_)) rfl ?_
      refine r_iconst (v := 0) 14 dX7_hopsFrom_13 rfl (by decide) ?_
      refine r_iald 15 dX7_hopsFrom_14 rfl (0) (by repeat (first | assumption | refine gs_eq ?_ | refine gs_ne (by omega) ?_ | exact is_of (by assumption) | refine gs_is ?_)) rfl (by decide) (by decide) ?_
      rw [eh]
      refine r_icmp_ge 42 18 dX7_hopsFrom_15 (by decide) rfl (fun q15 => ?_) (fun q15 => absurd q15 (fun z => z (nI_le (by omega) (by omega))))
      refine r_iload_n 43 dX7_hopsFrom_42 rfl rfl ?_
      refine r_iret dX7_hopsFrom_43 rfl (by decide) (by decide) ?_
      exact ⟨by rw [← hu]; rfl, h1⟩
    | succ m ih =>
      intro i c hi hu
      obtain ⟨q, hq, hd⟩ := drop_c (l := hopsN f mv jp oc) (i := i) (by omega)
      obtain ⟨e1, e2, e3, e4, e5⟩ := hl.2.2 i q hq
      rw [hd, List.countP_cons] at hu
      refine r_iload_n 9 dX7_hopsFrom_8 rfl rfl ?_
      refine r_aload_n 10 dX7_hopsFrom_9 rfl rfl rfl ?_
      refine r_getf 13 dX7_hopsFrom_10 rfl f_X7_36.r (by repeat (first | assumption | refine gs_eq ?_ | refine gs_ne (by omega) ?_ | exact is_of (by assumption) | refine gs_is ?_)) rfl ?_
      refine r_iconst (v := 0) 14 dX7_hopsFrom_13 rfl (by decide) ?_
      refine r_iald 15 dX7_hopsFrom_14 rfl (0) (by repeat (first | assumption | refine gs_eq ?_ | refine gs_ne (by omega) ?_ | exact is_of (by assumption) | refine gs_is ?_)) rfl (by decide) (by decide) ?_
      rw [eh]
      refine r_icmp_ge 42 18 dX7_hopsFrom_15 (by decide) rfl (fun q15 => absurd q15 (nI_ge (by omega) (by omega))) (fun q15 => ?_)
      refine r_iload_n 19 dX7_hopsFrom_18 rfl rfl ?_
      refine r_aload_n 20 dX7_hopsFrom_19 rfl rfl rfl ?_
      refine r_getf 23 dX7_hopsFrom_20 rfl f_X7_39.r (by repeat (first | assumption | refine gs_eq ?_ | refine gs_ne (by omega) ?_ | exact is_of (by assumption) | refine gs_is ?_)) rfl ?_
      refine r_iload_n 24 dX7_hopsFrom_23 rfl rfl ?_
      refine r_iald 25 dX7_hopsFrom_24 rfl (1500 * 0 + i) (by repeat (first | assumption | refine gs_eq ?_ | refine gs_ne (by omega) ?_ | exact is_of (by assumption) | refine gs_is ?_)) (by rw [Nat.mul_zero, Nat.zero_add]) (by omega) (by decide) ?_
      rw [e1]
      refine r_iload_n 26 dX7_hopsFrom_25 rfl rfl ?_
      refine r_icmp_ne 33 29 dX7_hopsFrom_26 (by decide) rfl (fun q26 => ?_) (fun q26 => ?_)
      · refine r_iconst (v := 0) 34 dX7_hopsFrom_33 rfl (by decide) ?_
        refine r_iadd 35 dX7_hopsFrom_34 rfl ?_
        refine r_istore_n (ls1 := [_, _, _, _]) 36 dX7_hopsFrom_35 rfl (by decide) rfl rfl ?_
        refine r_iinc (ls1 := [_, _, _, _]) 39 dX7_hopsFrom_36 rfl (by decide) rfl rfl (nI_1 i) rfl ?_
        refine r_goto 8 dX7_hopsFrom_39 (by decide) ?_
        first
        | (rw [nI_1]
           exact ih (i + 1) (c + 1) (by omega) (by rw [if_pos (decide_eq_true q26)] at hu; omega))
        | (rw [Int32.add_zero]
           exact ih (i + 1) c (by omega) (by rw [if_neg (by rw [decide_eq_false q26]; decide)] at hu; omega))
      · refine r_iconst (v := 1) 30 dX7_hopsFrom_29 rfl (by decide) ?_
        refine r_goto 34 dX7_hopsFrom_30 (by decide) ?_
        refine r_iadd 35 dX7_hopsFrom_34 rfl ?_
        refine r_istore_n (ls1 := [_, _, _, _]) 36 dX7_hopsFrom_35 rfl (by decide) rfl rfl ?_
        refine r_iinc (ls1 := [_, _, _, _]) 39 dX7_hopsFrom_36 rfl (by decide) rfl rfl (nI_1 i) rfl ?_
        refine r_goto 8 dX7_hopsFrom_39 (by decide) ?_
        first
        | (rw [nI_1]
           exact ih (i + 1) (c + 1) (by omega) (by rw [if_pos (decide_eq_true q26)] at hu; omega))
        | (rw [Int32.add_zero]
           exact ih (i + 1) c (by omega) (by rw [if_neg (by rw [decide_eq_false q26]; decide)] at hu; omega))
  refine r_iconst (v := nI 0) 5 dX7_hopsFrom_4 rfl (by decide) ?_
  refine r_istore_n (ls1 := [_, _, _, _]) 6 dX7_hopsFrom_5 rfl (by decide) rfl rfl ?_
  refine r_iconst (v := nI 0) 7 dX7_hopsFrom_6 rfl (by decide) ?_
  refine r_istore_n (ls1 := [_, _, _, _]) 8 dX7_hopsFrom_7 rfl (by decide) rfl rfl ?_
  exact loop (hopsN f mv jp oc).length 0 0 (by omega) (by rw [Nat.zero_add]; rfl)

set_option maxRecDepth 100000 in
theorem tX7_hopsNow {Γ : CT} {w : PW} {pm ty rm sp wr : Int32} {W : MW} {z f : Nat → Int32} {mv jp oc : Int32} (ho : w[43]? = some (oM pm ty rm sp wr)) (hz : w[44]? = some (aI 431 z)) (hzf : zF z f mv jp oc) (hW : isW w W) (hf : okF f) (hmv : mv = 0 ∨ mv = 1) (hjj : jjO f mv jp) : Cl Γ yX7_hopsNow XX7_hopsNow 6 0 0 [.ref 43] w (rP (nI (hopsN f mv jp oc).length) (toLk w f mv jp oc)) := by
  refine Cl.of (ls := [some (.ref 43)]) rfl (by decide +kernel) (fun h => by cases h) (Nat.le_of_ble_eq_true rfl) rfl ?_
  refine r_aload_n 1 dX7_hopsNow_0 rfl rfl rfl ?_
  refine r_callV0 4 dX7_hopsNow_1 rfl (tX7_look ho hz hzf hW hf hmv hjj) l_X7_124 mX7_look rfl (by repeat (first | assumption | refine gs_eq ?_ | refine gs_ne (by omega) ?_ | exact is_of (by assumption) | refine gs_is ?_)) rfl (by decide) (Nat.le_of_ble_eq_true rfl) (by decide) (qN fun w1 h1 => ?_)
  obtain ⟨hF1, V, hV, hb, hs0, hc0, hl⟩ := id h1
  have oV := (hF1.2 43 (by unfold wS; omega)).trans ho
  have zV := (hF1.2 44 (by unfold wS; omega)).trans hz
  obtain ⟨v49, v50, v51, v52, v53, v54, v55, v56, v57⟩ := id hV
  have eh := hl.2.1
  have hl192 := hl.1
  refine r_aload_n 5 dX7_hopsNow_4 rfl rfl rfl ?_
  refine r_getf 8 dX7_hopsNow_5 rfl f_X7_36.r (by repeat (first | assumption | refine gs_eq ?_ | refine gs_ne (by omega) ?_ | exact is_of (by assumption) | refine gs_is ?_)) rfl ?_
  refine r_iconst (v := 0) 9 dX7_hopsNow_8 rfl (by decide) ?_
  refine r_iald 10 dX7_hopsNow_9 rfl (0) (by repeat (first | assumption | refine gs_eq ?_ | refine gs_ne (by omega) ?_ | exact is_of (by assumption) | refine gs_is ?_)) rfl (by decide) (by decide) ?_
  rw [eh]
  refine r_iret dX7_hopsNow_10 rfl (by decide) (by decide) ?_
  exact ⟨rfl, h1⟩

theorem okP_sdn {p : Int32} (h : okP p) (hn : ¬ p = -6) : ¬ sdO p = -6 := by
  rcases sdO_01 h hn with e | e <;> rw [e] <;> decide
set_option maxRecDepth 100000 in
theorem tX7_isInDanger {Γ : CT} {w : PW} {pm ty rm sp wr : Int32} {W : MW} {z f : Nat → Int32} {mv jp oc : Int32} {j : Nat} (ho : w[43]? = some (oM pm ty rm sp wr)) (hz : w[44]? = some (aI 431 z)) (hzf : zF z f mv jp oc) (hW : isW w W) (hf : okF f) (hmv : mv = 0 ∨ mv = 1) (hjj : jjO f mv jp) (hj : j < 48) : Cl Γ yX7_isInDanger XX7_isInDanger 6 0 0 [.ref 43, .int (nI j)] w (rP (bI (dngO f (nI j))) (fun w1 => Fr w w1 wS ∧ ∃ V, isW w1 V)) := by
  refine Cl.of (ls := [some (.ref 43), some (.int (nI j)), none, none]) rfl (by decide +kernel) (fun h => by cases h) (Nat.le_of_ble_eq_true rfl) rfl ?_
  refine r_aload_n 1 dX7_isInDanger_0 rfl rfl rfl ?_
  refine r_getf 4 dX7_isInDanger_1 rfl f_X7_7.r (by repeat (first | assumption | refine gs_eq ?_ | refine gs_ne (by omega) ?_ | exact is_of (by assumption) | refine gs_is ?_)) rfl ?_
  refine r_iconst (v := 0) 5 dX7_isInDanger_4 rfl (by decide) ?_
  refine r_iload_n 6 dX7_isInDanger_5 rfl rfl ?_
  refine r_iadd 7 dX7_isInDanger_6 rfl ?_
  refine r_iald 8 dX7_isInDanger_7 rfl (j) (by repeat (first | assumption | refine gs_eq ?_ | refine gs_ne (by omega) ?_ | exact is_of (by assumption) | refine gs_is ?_)) (Int32.zero_add _) (by omega) (by decide) ?_
  rw [hzf.1 j hj]
  refine r_bipush (v := (-6)) 10 dX7_isInDanger_8 rfl (by decide) ?_
  refine r_icmp_ne 15 13 dX7_isInDanger_10 (by decide) rfl (fun q10 => ?_) (fun q10 => ?_)
  · refine r_aload_n 16 dX7_isInDanger_15 rfl rfl rfl ?_
    refine r_callV0 19 dX7_isInDanger_16 rfl (tX7_look ho hz hzf hW hf hmv hjj) l_X7_124 mX7_look rfl (by repeat (first | assumption | refine gs_eq ?_ | refine gs_ne (by omega) ?_ | exact is_of (by assumption) | refine gs_is ?_)) rfl (by decide) (Nat.le_of_ble_eq_true rfl) (by decide) (qN fun w1 h1 => ?_)
    obtain ⟨hF1, V, hV, hb, hs0, hc0, hl⟩ := id h1
    have oV := (hF1.2 43 (by unfold wS; omega)).trans ho
    have zV := (hF1.2 44 (by unfold wS; omega)).trans hz
    obtain ⟨v49, v50, v51, v52, v53, v54, v55, v56, v57⟩ := id hV
    have eh := hl.2.1
    have hl192 := hl.1
    have hsd1 : 1 - sdO (f j) = 0 ∨ 1 - sdO (f j) = 1 := by
      rcases sdO_01 (hf j hj) q10 with h | h
      · exact Or.inr (by rw [h]; rfl)
      · exact Or.inl (by rw [h]; rfl)
    refine r_aload_n 20 dX7_isInDanger_19 rfl rfl rfl ?_
    refine r_iconst (v := 0) 21 dX7_isInDanger_20 rfl (by decide) ?_
    refine r_iconst (v := 1) 22 dX7_isInDanger_21 rfl (by decide) ?_
    refine r_aload_n 23 dX7_isInDanger_22 rfl rfl rfl ?_
    refine r_getf 26 dX7_isInDanger_23 rfl f_X7_7.r (by repeat (first | assumption | refine gs_eq ?_ | refine gs_ne (by omega) ?_ | exact is_of (by assumption) | refine gs_is ?_)) rfl ?_
    refine r_iconst (v := 0) 27 dX7_isInDanger_26 rfl (by decide) ?_
    refine r_iload_n 28 dX7_isInDanger_27 rfl rfl ?_
    refine r_iadd 29 dX7_isInDanger_28 rfl ?_
    refine r_iald 30 dX7_isInDanger_29 rfl (j) (by repeat (first | assumption | refine gs_eq ?_ | refine gs_ne (by omega) ?_ | exact is_of (by assumption) | refine gs_is ?_)) (Int32.zero_add _) (by omega) (by decide) ?_
    rw [hzf.1 j hj]
    refine r_callS0 33 dX7_isInDanger_30 rfl (tX7_sd (hf j hj)) l_X7_87 mX7_sideOf rfl (by decide) (Nat.le_of_ble_eq_true rfl) (by decide) (qI ?_)
    refine r_isub 34 dX7_isInDanger_33 rfl ?_
    refine r_bipush (v := (-6)) 36 dX7_isInDanger_34 rfl (by decide) ?_
    refine r_callV0 39 dX7_isInDanger_36 rfl (tX7_listAllJumps (L := 0) oV hV hb hf (by decide) hsd1 (lenJ hsd1)) l_X7_108 mX7_listAllJumps rfl (by repeat (first | assumption | refine gs_eq ?_ | refine gs_ne (by omega) ?_ | exact is_of (by assumption) | refine gs_is ?_)) rfl (by decide) (Nat.le_of_ble_eq_true rfl) (by decide) (qN fun w2 hk => ?_)
    obtain ⟨hF2, U, hU, ul, us⟩ := hk
    have oU := (hF2.2 43 (by unfold wS; omega)).trans oV
    obtain ⟨u49, u50, u51, u52, u53, u54, u55, u56, u57⟩ := id hU
    have uh := ul.2.1
    have ul192 := ul.1
    have edn : dngO f (nI j) = ((allJ f (1 - sdO (f j)) (-6))).any (fun q => decide (q.2.2.2.2 = nI j)) := by
      unfold dngO
      rw [pAt_nI hj, if_neg (okP_sdn (hf j hj) q10)]
    have loop : ∀ (m i : Nat) (b : Bool), i + m = (allJ f (1 - sdO (f j)) (-6)).length → ((b || ((allJ f (1 - sdO (f j)) (-6)).drop i).any (fun q => decide (q.2.2.2.2 = nI j))) = (allJ f (1 - sdO (f j)) (-6)).any (fun q => decide (q.2.2.2.2 = nI j))) → Rn Γ XX7_isInDanger (rmO 6 0 0) none (FinM (rP (bI (dngO f (nI j))) (fun w1 => Fr w w1 wS ∧ ∃ V, isW w1 V)) 0 0) 0 0 w2 43 [some (.ref 43), some (.int (nI j)), some (.int (bI b)), some (.int (nI i))] [] := by
      intro m
      induction m with
      | zero =>
        intro i b hi hu
        have h9 : i = (allJ f (1 - sdO (f j)) (-6)).length := by omega
        subst h9
        rw [List.drop_length, List.any_nil, Bool.or_false] at hu
        refine r_iload_n 44 dX7_isInDanger_43 rfl rfl ?_
        refine r_aload_n 45 dX7_isInDanger_44 rfl rfl rfl ?_
        refine r_getf 48 dX7_isInDanger_45 rfl f_X7_36.r (by repeat (first | assumption | refine gs_eq ?_ | refine gs_ne (by omega) ?_ | exact is_of (by assumption) | refine gs_is ?_)) rfl ?_
        refine r_iconst (v := 0) 49 dX7_isInDanger_48 rfl (by decide) ?_
        refine r_iald 50 dX7_isInDanger_49 rfl (0) (by repeat (first | assumption | refine gs_eq ?_ | refine gs_ne (by omega) ?_ | exact is_of (by assumption) | refine gs_is ?_)) rfl (by decide) (by decide) ?_
        rw [uh]
        refine r_icmp_ge 79 53 dX7_isInDanger_50 (by decide) rfl (fun q50 => ?_) (fun q50 => absurd q50 (fun z => z (nI_le (by omega) (by omega))))
        refine r_iload_n 80 dX7_isInDanger_79 rfl rfl ?_
        refine r_bret dX7_isInDanger_80 rfl (bI01 _) (by decide) (by decide) ?_
        exact ⟨by rw [hu, edn], Fr.tr hF1 hF2, U, hU⟩
      | succ m ih =>
        intro i b hi hu
        obtain ⟨q, hq, hd⟩ := drop_c (l := (allJ f (1 - sdO (f j)) (-6))) (i := i) (by omega)
        obtain ⟨e1, e2, e3, e4, e5⟩ := ul.2.2 i q hq
        rw [hd, List.any_cons] at hu
        refine r_iload_n 44 dX7_isInDanger_43 rfl rfl ?_
        refine r_aload_n 45 dX7_isInDanger_44 rfl rfl rfl ?_
        refine r_getf 48 dX7_isInDanger_45 rfl f_X7_36.r (by repeat (first | assumption | refine gs_eq ?_ | refine gs_ne (by omega) ?_ | exact is_of (by assumption) | refine gs_is ?_)) rfl ?_
        refine r_iconst (v := 0) 49 dX7_isInDanger_48 rfl (by decide) ?_
        refine r_iald 50 dX7_isInDanger_49 rfl (0) (by repeat (first | assumption | refine gs_eq ?_ | refine gs_ne (by omega) ?_ | exact is_of (by assumption) | refine gs_is ?_)) rfl (by decide) (by decide) ?_
        rw [uh]
        refine r_icmp_ge 79 53 dX7_isInDanger_50 (by decide) rfl (fun q50 => absurd q50 (nI_ge (by omega) (by omega))) (fun q50 => ?_)
        refine r_iload_n 54 dX7_isInDanger_53 rfl rfl ?_
        refine r_if_ne 67 57 dX7_isInDanger_54 (by decide) rfl (fun q54 => ?_) (fun q54 => ?_)
        · refine r_iconst (v := 1) 68 dX7_isInDanger_67 rfl (by decide) ?_
          refine r_goto 72 dX7_isInDanger_68 (by decide) ?_
          refine r_istore_n (ls1 := [_, _, _, _]) 73 dX7_isInDanger_72 rfl (by decide) rfl rfl ?_
          refine r_iinc (ls1 := [_, _, _, _]) 76 dX7_isInDanger_73 rfl (by decide) rfl rfl (nI_1 i) rfl ?_
          refine r_goto 43 dX7_isInDanger_76 (by decide) ?_
          first
          | exact ih (i + 1) true (by omega) (by rw [← hu, ne_f q54]; rfl)
          | exact ih (i + 1) true (by omega) (by rw [← hu, decide_eq_true q64]; simp)
          | exact ih (i + 1) false (by omega) (by rw [← hu, decide_eq_false q64, bI_0.mp q54]; rfl)
        · refine r_aload_n 58 dX7_isInDanger_57 rfl rfl rfl ?_
          refine r_getf 61 dX7_isInDanger_58 rfl f_X7_51.r (by repeat (first | assumption | refine gs_eq ?_ | refine gs_ne (by omega) ?_ | exact is_of (by assumption) | refine gs_is ?_)) rfl ?_
          refine r_iload_n 62 dX7_isInDanger_61 rfl rfl ?_
          refine r_iald 63 dX7_isInDanger_62 rfl (1500 * 0 + i) (by repeat (first | assumption | refine gs_eq ?_ | refine gs_ne (by omega) ?_ | exact is_of (by assumption) | refine gs_is ?_)) (by rw [Nat.mul_zero, Nat.zero_add]) (by omega) (by decide) ?_
          rw [e5]
          refine r_iload_n 64 dX7_isInDanger_63 rfl rfl ?_
          refine r_icmp_ne 71 67 dX7_isInDanger_64 (by decide) rfl (fun q64 => ?_) (fun q64 => ?_)
          · refine r_iconst (v := 0) 72 dX7_isInDanger_71 rfl (by decide) ?_
            refine r_istore_n (ls1 := [_, _, _, _]) 73 dX7_isInDanger_72 rfl (by decide) rfl rfl ?_
            refine r_iinc (ls1 := [_, _, _, _]) 76 dX7_isInDanger_73 rfl (by decide) rfl rfl (nI_1 i) rfl ?_
            refine r_goto 43 dX7_isInDanger_76 (by decide) ?_
            first
            | exact ih (i + 1) true (by omega) (by rw [← hu, ne_f q54]; rfl)
            | exact ih (i + 1) true (by omega) (by rw [← hu, decide_eq_true q64]; simp)
            | exact ih (i + 1) false (by omega) (by rw [← hu, decide_eq_false q64, bI_0.mp q54]; rfl)
          · refine r_iconst (v := 1) 68 dX7_isInDanger_67 rfl (by decide) ?_
            refine r_goto 72 dX7_isInDanger_68 (by decide) ?_
            refine r_istore_n (ls1 := [_, _, _, _]) 73 dX7_isInDanger_72 rfl (by decide) rfl rfl ?_
            refine r_iinc (ls1 := [_, _, _, _]) 76 dX7_isInDanger_73 rfl (by decide) rfl rfl (nI_1 i) rfl ?_
            refine r_goto 43 dX7_isInDanger_76 (by decide) ?_
            first
            | exact ih (i + 1) true (by omega) (by rw [← hu, ne_f q54]; rfl)
            | exact ih (i + 1) true (by omega) (by rw [← hu, decide_eq_true q64]; simp)
            | exact ih (i + 1) false (by omega) (by rw [← hu, decide_eq_false q64, bI_0.mp q54]; rfl)
    refine r_iconst (v := 0) 40 dX7_isInDanger_39 rfl (by decide) ?_
    refine r_istore_n (ls1 := [_, _, _, _]) 41 dX7_isInDanger_40 rfl (by decide) rfl rfl ?_
    refine r_iconst (v := nI 0) 42 dX7_isInDanger_41 rfl (by decide) ?_
    refine r_istore_n (ls1 := [_, _, _, _]) 43 dX7_isInDanger_42 rfl (by decide) rfl rfl ?_
    exact loop (allJ f (1 - sdO (f j)) (-6)).length 0 false (by omega) (by rw [Bool.false_or]; rfl)
  · refine r_iconst (v := 0) 14 dX7_isInDanger_13 rfl (by decide) ?_
    refine r_bret dX7_isInDanger_14 rfl (by first | exact Or.inl rfl | exact Or.inr rfl) (by decide) (by decide) ?_
    exact ⟨by unfold dngO; rw [pAt_nI hj, q10, sd_emp, if_pos rfl]; rfl, Fr.rf, W, hW⟩

set_option maxRecDepth 100000 in
theorem tX7_goesOn {Γ : CT} {w : PW} {pm ty rm sp wr : Int32} {W : MW} {k : Nat} {f : Nat → Int32} {l : List HP} {q : HP} {mv : Int32} (ho : w[43]? = some (oM pm ty rm sp wr)) (hW : isW w W) (hb : bdA W 0 f) (hls : lsA W 0 l) (hq : l[k]? = some q) (hg : goQ f mv q) (hf : okF f) (hsd : W.2.1 0 = mv) (hmv : mv = 0 ∨ mv = 1) : Cl Γ yX7_goesOn XX7_goesOn 5 0 0 [.ref 43, .int (nI k)] w (rP (bI (decide (¬ mkJ f mv q = -6))) (fun w1 => Fr w w1 wS ∧ ∃ V, isW w1 V)) := by
  refine Cl.of (ls := [some (.ref 43), some (.int (nI k))]) rfl (by decide +kernel) (fun h => by cases h) (Nat.le_of_ble_eq_true rfl) rfl ?_
  refine r_aload_n 1 dX7_goesOn_0 rfl rfl rfl ?_
  refine r_iconst (v := nI 0) 2 dX7_goesOn_1 rfl (by decide) ?_
  refine r_iload_n 3 dX7_goesOn_2 rfl rfl ?_
  refine r_callV0 6 dX7_goesOn_3 rfl (tX7_go ho hW hb hls (by decide) hq hg hf hsd hmv) l_X7_152 mX7_go rfl (by repeat (first | assumption | refine gs_eq ?_ | refine gs_ne (by omega) ?_ | exact is_of (by assumption) | refine gs_is ?_)) rfl (by decide) (Nat.le_of_ble_eq_true rfl) (by decide) (qN fun w1 hk => ?_)
  obtain ⟨hF1, V, hV, hb1, hs1, hc1, hm1⟩ := hk
  have oV := (hF1.2 43 (by unfold wS; omega)).trans ho
  obtain ⟨v49, v50, v51, v52, v53, v54, v55, v56, v57⟩ := id hV
  refine r_aload_n 7 dX7_goesOn_6 rfl rfl rfl ?_
  refine r_getf 10 dX7_goesOn_7 rfl f_X7_33.r (by repeat (first | assumption | refine gs_eq ?_ | refine gs_ne (by omega) ?_ | exact is_of (by assumption) | refine gs_is ?_)) rfl ?_
  refine r_iconst (v := 1) 11 dX7_goesOn_10 rfl (by decide) ?_
  refine r_iald 12 dX7_goesOn_11 rfl (1) (by repeat (first | assumption | refine gs_eq ?_ | refine gs_ne (by omega) ?_ | exact is_of (by assumption) | refine gs_is ?_)) rfl (by decide) (by decide) ?_
  rw [show V.2.2.1 1 = mkJ f mv q from hc1]
  refine r_bipush (v := (-6)) 14 dX7_goesOn_12 rfl (by decide) ?_
  refine r_icmp_ne 21 17 dX7_goesOn_14 (by decide) rfl (fun q14 => ?_) (fun q14 => ?_)
  · refine r_iconst (v := 1) 22 dX7_goesOn_21 rfl (by decide) ?_
    refine r_iret dX7_goesOn_22 rfl (by decide) (by decide) ?_
    first | exact ⟨by rw [bI_of q14], hF1, V, hV⟩ | exact ⟨by rw [decide_eq_false (fun z => z q14)]; rfl, hF1, V, hV⟩
  · refine r_iconst (v := 0) 18 dX7_goesOn_17 rfl (by decide) ?_
    refine r_goto 22 dX7_goesOn_18 (by decide) ?_
    refine r_iret dX7_goesOn_22 rfl (by decide) (by decide) ?_
    first | exact ⟨by rw [bI_of q14], hF1, V, hV⟩ | exact ⟨by rw [decide_eq_false (fun z => z q14)]; rfl, hF1, V, hV⟩

