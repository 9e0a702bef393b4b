/-! ===== the model: judging, beginning, making a hop ===== -/
theorem isW.fr {w v : PW} {W : MW} {S : Nat → Prop} (h : isW w W) (hF : Fr w v S) (hS : ∀ q, wS q → ¬ S q) : isW v W := by
  obtain ⟨c49, c50, c51, c52, c53, c54, c55, c56, c57⟩ := h
  exact ⟨hF.at (hS _ (by unfold wS; decide)) c49, hF.at (hS _ (by unfold wS; decide)) c50, hF.at (hS _ (by unfold wS; decide)) c51, hF.at (hS _ (by unfold wS; decide)) c52, hF.at (hS _ (by unfold wS; decide)) c53, hF.at (hS _ (by unfold wS; decide)) c54, hF.at (hS _ (by unfold wS; decide)) c55, hF.at (hS _ (by unfold wS; decide)) c56, hF.at (hS _ (by unfold wS; decide)) c57⟩
theorem isW.s44 {w v : PW} {W : MW} (h : isW w W) (hF : Fr w v (fun q => q = 44)) : isW v W := h.fr hF (fun q a b => by unfold wS at a; omega)
theorem Fr.z44 {w v : PW} (hF : Fr w v (fun q => q = 44)) : Fr w v zS := hF.mono (fun q a => Or.inl a)
theorem Fr.zW {w v : PW} (hF : Fr w v wS) : Fr w v zS := hF.mono (fun q a => Or.inr a)
theorem zA.ll {z : Nat → Int32} {f : Nat → Int32} {mv oc cs : Int32} {cl : Nat → Int32} {mk jp : Int32} {lo : Nat → Int32} {qt : Int32} {P : List P3} {lo2 : Nat → Int32} (h : zA z f mv oc cs cl mk jp lo qt P) (e0 : lo2 0 = lo 0) (e1 : lo2 1 = lo 1) : zA z f mv oc cs cl mk jp lo2 qt P := by
  obtain ⟨h0, a48, a49, a50, a51, a52, a53, a54, a55, a56, a57, a58, hp⟩ := h
  exact ⟨h0, a48, a49, a50, a51, a52, a53, a54, a55.trans e0.symm, a56.trans e1.symm, a57, a58, hp⟩
theorem zA.lc {z : Nat → Int32} {f : Nat → Int32} {mv oc cs : Int32} {cl : Nat → Int32} {mk jp : Int32} {lo : Nat → Int32} {qt : Int32} {P : List P3} {cl2 : Nat → Int32} (h : zA z f mv oc cs cl mk jp lo qt P) (e0 : cl2 0 = cl 0) (e1 : cl2 1 = cl 1) : zA z f mv oc cs cl2 mk jp lo qt P := by
  obtain ⟨h0, a48, a49, a50, a51, a52, a53, a54, a55, a56, a57, a58, hp⟩ := h
  exact ⟨h0, a48, a49, a50, a51.trans e0.symm, a52.trans e1.symm, a53, a54, a55, a56, a57, a58, hp⟩
theorem jud_eq {f : Nat → Int32} {mv jp qt : Int32} {P : List P3} {l : P3} (hj : jjO f mv jp) (hmv : mv = 0 ∨ mv = 1) (hP : ∀ p ∈ P, okp3 p) (hl : P[P.length - 1]? = some l) (h61 : P.length ≤ 61) : judO f mv (P.map t3p) qt = if (hopsC f mv jp).length = 0 then (if mv = 0 then 2 else 1) else if 2 < nI (P.countP (fun p => encE p l)) ∨ ¬ qt < 60 then 3 else 0 := by
  unfold judO
  by_cases h0 : hopsC f mv jp = []
  · rw [if_neg (fun z => (hasH_iff hj).mp z h0), if_pos (by rw [h0]; rfl)]
    rcases hmv with rfl | rfl <;> decide
  · rw [if_pos ((hasH_iff hj).mpr h0), if_neg (fun z => h0 (List.eq_nil_of_length_eq_zero z)), tmN_enc hP hl]
    have hc : P.countP (fun p => encE p l) ≤ 61 := Nat.le_trans List.countP_le_length h61
    have e1 : (3 ≤ P.countP (fun p => encE p l)) ↔ 2 < nI (P.countP (fun p => encE p l)) := by
      rw [show (2 : Int32) = nI 2 from rfl, nI_ltI (by decide) (by omega)]
      omega
    have e2 : (60 ≤ qt) ↔ ¬ qt < 60 := Int32.not_lt.symm
    simp only [e1, e2]
def stV (s : Nat) : Int32 := if s / 6 = 1 ∨ s / 6 = 2 then 0 else if s / 6 = 5 ∨ s / 6 = 6 then 2 else -6
theorem stF_at {s : Nat} (hs : s < 48) : stF s = stV s := of_decide_eq_true (all2 (A := 48) (B := 1) (P := fun s _ => decide (stF s = stV s)) (by decide +kernel) hs (show 0 < 1 by decide))
theorem stV_ok (s : Nat) : okP (stV s) := by
  unfold stV
  split
  · exact Or.inr (Or.inl rfl)
  · split
    · exact Or.inr (Or.inr (Or.inr (Or.inl rfl)))
    · exact Or.inl rfl
theorem bg_ok {e : Bool} {F N : Nat → Int32} (h : bgFN e F N) : okF F := by
  intro s hs
  cases e with
  | true => rw [(h.1 rfl).1]; exact Or.inl rfl
  | false => rw [(h.2 rfl).1, stF_at hs]; exact stV_ok s
theorem stN_C : nC stF stN := fun i hi => of_decide_eq_true (all2 (A := 4) (B := 1) (P := fun i _ => decide (stN i = nI (pcK stF i 48))) (by decide +kernel) hi (show 0 < 1 by decide))
theorem bg_C {e : Bool} {F N : Nat → Int32} (h : bgFN e F N) : nC F N := by
  cases e with
  | true =>
    rw [(h.1 rfl).1, (h.1 rfl).2]
    exact fun i hi => of_decide_eq_true (all2 (A := 4) (B := 1) (P := fun i _ => decide ((0 : Int32) = nI (pcK (fun _ => -6) i 48))) (by decide +kernel) hi (show 0 < 1 by decide))
  | false => rw [(h.2 rfl).1, (h.2 rfl).2]; exact stN_C
set_option maxRecDepth 100000 in
theorem tX7_judge {Γ : CT} {w : PW} {pm ty rm sp wr : Int32} {z : Nat → Int32} {f : Nat → Int32} {mv oc cs : Int32} {cl : Nat → Int32} {mk jp : Int32} {lo : Nat → Int32} {qt : Int32} {P : List P3} {W : MW} (ho : w[43]? = some (oM pm ty rm sp wr)) (hz : w[44]? = some (aI 431 z)) (hA : zA z f mv oc cs cl mk jp lo qt P) (hW : isW w W) (hf : okF f) (hmv : mv = 0 ∨ mv = 1) (hjj : jjO f mv jp) (hP1 : 1 ≤ P.length) (hP : P.length ≤ 61) (hPo : ∀ p ∈ P, okp3 p) : Cl Γ yX7_judge XX7_judge 6 0 0 [.ref 43] w (rN (toZ w f mv (judO f mv (P.map t3p) qt) cs cl mk jp lo qt P)) := by
  refine Cl.of (ls := [some (.ref 43)]) rfl (by decide +kernel) (fun h => by cases h) (Nat.le_of_ble_eq_true rfl) rfl ?_
  obtain ⟨c49, c50, c51, c52, c53, c54, c55, c56, c57⟩ := id hW
  have hA1 := hA.s49 (x := 0)
  have hz0 : hopsN f mv jp 0 = hopsC f mv jp := by unfold hopsN; rw [if_pos rfl]
  obtain ⟨ll, hll⟩ : ∃ l, P[P.length - 1]? = some l := ⟨P[P.length - 1], List.getElem?_eq_getElem (by omega)⟩
  refine r_aload_n 1 dX7_judge_0 rfl rfl rfl ?_
  refine r_getf 4 dX7_judge_1 rfl f_X7_7.r (by repeat (first | assumption | refine gs_eq ?_ | refine gs_ne (by omega) ?_ | exact is_of (by assumption) | refine gs_is ?_)) rfl ?_
  refine r_bipush (v := 49) 6 dX7_judge_4 rfl (by decide) ?_
  refine r_iconst (v := 0) 7 dX7_judge_6 rfl (by decide) ?_
  refine r_iast 8 dX7_judge_7 rfl (49) (by repeat (first | assumption | refine gs_eq ?_ | refine gs_ne (by omega) ?_ | exact is_of (by assumption) | refine gs_is ?_)) rfl (by decide) (by decide) ?_
  refine r_aload_n 9 dX7_judge_8 rfl rfl rfl ?_
  refine r_callV0 12 dX7_judge_9 rfl (tX7_look (by repeat (first | assumption | refine gs_eq ?_ | refine gs_ne (by omega) ?_ | exact is_of (by assumption) | refine gs_is ?_)) (by repeat (first | assumption | refine gs_eq ?_ | refine gs_ne (by omega) ?_ | exact is_of (by assumption) | refine gs_is ?_)) hA1.F ⟨(by repeat (first | assumption | refine gs_eq ?_ | refine gs_ne (by omega) ?_ | exact is_of (by assumption) | refine gs_is ?_)), (by repeat (first | assumption | refine gs_eq ?_ | refine gs_ne (by omega) ?_ | exact is_of (by assumption) | refine gs_is ?_)), (by repeat (first | assumption | refine gs_eq ?_ | refine gs_ne (by omega) ?_ | exact is_of (by assumption) | refine gs_is ?_)), (by repeat (first | assumption | refine gs_eq ?_ | refine gs_ne (by omega) ?_ | exact is_of (by assumption) | refine gs_is ?_)), (by repeat (first | assumption | refine gs_eq ?_ | refine gs_ne (by omega) ?_ | exact is_of (by assumption) | refine gs_is ?_)), (by repeat (first | assumption | refine gs_eq ?_ | refine gs_ne (by omega) ?_ | exact is_of (by assumption) | refine gs_is ?_)), (by repeat (first | assumption | refine gs_eq ?_ | refine gs_ne (by omega) ?_ | exact is_of (by assumption) | refine gs_is ?_)), (by repeat (first | assumption | refine gs_eq ?_ | refine gs_ne (by omega) ?_ | exact is_of (by assumption) | refine gs_is ?_)), (by repeat (first | assumption | refine gs_eq ?_ | refine gs_ne (by omega) ?_ | exact is_of (by assumption) | refine gs_is ?_))⟩ hf hmv hjj) l_X7_124 mX7_look rfl (by repeat (first | assumption | refine gs_eq ?_ | refine gs_ne (by omega) ?_ | exact is_of (by assumption) | refine gs_is ?_)) rfl (by decide) (Nat.le_of_ble_eq_true rfl) (by decide) (qN fun w1 h1 => ?_)
  obtain ⟨hF1, V, hV, hb, hs0, hc0, hl⟩ := id h1
  have oV := (hF1.2 43 (by unfold wS; omega)).trans ((by repeat (first | assumption | refine gs_eq ?_ | refine gs_ne (by omega) ?_ | exact is_of (by assumption) | refine gs_is ?_)) : _ = some (oM pm ty rm sp wr))
  have zV := (hF1.2 44 (by unfold wS; omega)).trans ((by repeat (first | assumption | refine gs_eq ?_ | refine gs_ne (by omega) ?_ | exact is_of (by assumption) | refine gs_is ?_)) : _ = some (aI 431 (upd z 49 0)))
  obtain ⟨v49, v50, v51, v52, v53, v54, v55, v56, v57⟩ := id hV
  have eh : V.2.2.2.1 0 = nI (hopsC f mv jp).length := by rw [← hz0]; exact hl.2.1
  have hl192 : (hopsC f mv jp).length ≤ 192 := by rw [← hz0]; exact hl.1
  have hFa : Fr w w1 zS := Fr.tr (Fr.st (Or.inl rfl)) hF1.zW
  refine r_aload_n 13 dX7_judge_12 rfl rfl rfl ?_
  refine r_getf 16 dX7_judge_13 rfl f_X7_36.r (by repeat (first | assumption | refine gs_eq ?_ | refine gs_ne (by omega) ?_ | exact is_of (by assumption) | refine gs_is ?_)) rfl ?_
  refine r_iconst (v := 0) 17 dX7_judge_16 rfl (by decide) ?_
  refine r_iald 18 dX7_judge_17 rfl (0) (by repeat (first | assumption | refine gs_eq ?_ | refine gs_ne (by omega) ?_ | exact is_of (by assumption) | refine gs_is ?_)) rfl (by decide) (by decide) ?_
  rw [eh]
  refine r_if_ne 46 21 dX7_judge_18 (by decide) rfl (fun q18 => ?_) (fun q18 => ?_)
  · refine r_aload_n 47 dX7_judge_46 rfl rfl rfl ?_
    refine r_callV0 50 dX7_judge_47 rfl (tX7_timesCome oV zV hA1 hP hll) l_X7_127 mX7_timesCome rfl (by repeat (first | assumption | refine gs_eq ?_ | refine gs_ne (by omega) ?_ | exact is_of (by assumption) | refine gs_is ?_)) rfl (by decide) (Nat.le_of_ble_eq_true rfl) (by decide) (qI ?_)
    refine r_iconst (v := 2) 51 dX7_judge_50 rfl (by decide) ?_
    refine r_icmp_gt 66 54 dX7_judge_51 (by decide) rfl (fun q51 => ?_) (fun q51 => ?_)
    · refine r_aload_n 67 dX7_judge_66 rfl rfl rfl ?_
      refine r_getf 70 dX7_judge_67 rfl f_X7_7.r (by repeat (first | assumption | refine gs_eq ?_ | refine gs_ne (by omega) ?_ | exact is_of (by assumption) | refine gs_is ?_)) rfl ?_
      refine r_bipush (v := 49) 72 dX7_judge_70 rfl (by decide) ?_
      refine r_iconst (v := 3) 73 dX7_judge_72 rfl (by decide) ?_
      refine r_iast 74 dX7_judge_73 rfl (49) (by repeat (first | assumption | refine gs_eq ?_ | refine gs_ne (by omega) ?_ | exact is_of (by assumption) | refine gs_is ?_)) rfl (by decide) (by decide) ?_
      refine r_vret dX7_judge_74 rfl (by decide) (by decide) ?_
      first
      | exact ⟨rfl, Fr.tr hFa (Fr.st (Or.inl rfl)), _, V, (by repeat (first | assumption | refine gs_eq ?_ | refine gs_ne (by omega) ?_ | exact is_of (by assumption) | refine gs_is ?_)), (by rw [jud_eq hjj hmv hPo hll hP, if_pos (nI_z hl192 q18), if_pos q34]; exact hA1.s49), ⟨(by repeat (first | assumption | refine gs_eq ?_ | refine gs_ne (by omega) ?_ | exact is_of (by assumption) | refine gs_is ?_)), (by repeat (first | assumption | refine gs_eq ?_ | refine gs_ne (by omega) ?_ | exact is_of (by assumption) | refine gs_is ?_)), (by repeat (first | assumption | refine gs_eq ?_ | refine gs_ne (by omega) ?_ | exact is_of (by assumption) | refine gs_is ?_)), (by repeat (first | assumption | refine gs_eq ?_ | refine gs_ne (by omega) ?_ | exact is_of (by assumption) | refine gs_is ?_)), (by repeat (first | assumption | refine gs_eq ?_ | refine gs_ne (by omega) ?_ | exact is_of (by assumption) | refine gs_is ?_)), (by repeat (first | assumption | refine gs_eq ?_ | refine gs_ne (by omega) ?_ | exact is_of (by assumption) | refine gs_is ?_)), (by repeat (first | assumption | refine gs_eq ?_ | refine gs_ne (by omega) ?_ | exact is_of (by assumption) | refine gs_is ?_)), (by repeat (first | assumption | refine gs_eq ?_ | refine gs_ne (by omega) ?_ | exact is_of (by assumption) | refine gs_is ?_)), (by repeat (first | assumption | refine gs_eq ?_ | refine gs_ne (by omega) ?_ | exact is_of (by assumption) | refine gs_is ?_))⟩⟩
      | exact ⟨rfl, Fr.tr hFa (Fr.st (Or.inl rfl)), _, V, (by repeat (first | assumption | refine gs_eq ?_ | refine gs_ne (by omega) ?_ | exact is_of (by assumption) | refine gs_is ?_)), (by rw [jud_eq hjj hmv hPo hll hP, if_pos (nI_z hl192 q18), if_neg q34]; exact hA1.s49), ⟨(by repeat (first | assumption | refine gs_eq ?_ | refine gs_ne (by omega) ?_ | exact is_of (by assumption) | refine gs_is ?_)), (by repeat (first | assumption | refine gs_eq ?_ | refine gs_ne (by omega) ?_ | exact is_of (by assumption) | refine gs_is ?_)), (by repeat (first | assumption | refine gs_eq ?_ | refine gs_ne (by omega) ?_ | exact is_of (by assumption) | refine gs_is ?_)), (by repeat (first | assumption | refine gs_eq ?_ | refine gs_ne (by omega) ?_ | exact is_of (by assumption) | refine gs_is ?_)), (by repeat (first | assumption | refine gs_eq ?_ | refine gs_ne (by omega) ?_ | exact is_of (by assumption) | refine gs_is ?_)), (by repeat (first | assumption | refine gs_eq ?_ | refine gs_ne (by omega) ?_ | exact is_of (by assumption) | refine gs_is ?_)), (by repeat (first | assumption | refine gs_eq ?_ | refine gs_ne (by omega) ?_ | exact is_of (by assumption) | refine gs_is ?_)), (by repeat (first | assumption | refine gs_eq ?_ | refine gs_ne (by omega) ?_ | exact is_of (by assumption) | refine gs_is ?_)), (by repeat (first | assumption | refine gs_eq ?_ | refine gs_ne (by omega) ?_ | exact is_of (by assumption) | refine gs_is ?_))⟩⟩
      | exact ⟨rfl, Fr.tr hFa (Fr.st (Or.inl rfl)), _, V, (by repeat (first | assumption | refine gs_eq ?_ | refine gs_ne (by omega) ?_ | exact is_of (by assumption) | refine gs_is ?_)), (by rw [jud_eq hjj hmv hPo hll hP, if_neg (fun z => q18 (by rw [z]; rfl)), if_pos (Or.inl q51)]; exact hA1.s49), ⟨(by repeat (first | assumption | refine gs_eq ?_ | refine gs_ne (by omega) ?_ | exact is_of (by assumption) | refine gs_is ?_)), (by repeat (first | assumption | refine gs_eq ?_ | refine gs_ne (by omega) ?_ | exact is_of (by assumption) | refine gs_is ?_)), (by repeat (first | assumption | refine gs_eq ?_ | refine gs_ne (by omega) ?_ | exact is_of (by assumption) | refine gs_is ?_)), (by repeat (first | assumption | refine gs_eq ?_ | refine gs_ne (by omega) ?_ | exact is_of (by assumption) | refine gs_is ?_)), (by repeat (first | assumption | refine gs_eq ?_ | refine gs_ne (by omega) ?_ | exact is_of (by assumption) | refine gs_is ?_)), (by repeat (first | assumption | refine gs_eq ?_ | refine gs_ne (by omega) ?_ | exact is_of (by assumption) | refine gs_is ?_)), (by repeat (first | assumption | refine gs_eq ?_ | refine gs_ne (by omega) ?_ | exact is_of (by assumption) | refine gs_is ?_)), (by repeat (first | assumption | refine gs_eq ?_ | refine gs_ne (by omega) ?_ | exact is_of (by assumption) | refine gs_is ?_)), (by repeat (first | assumption | refine gs_eq ?_ | refine gs_ne (by omega) ?_ | exact is_of (by assumption) | refine gs_is ?_))⟩⟩
      | exact ⟨rfl, Fr.tr hFa (Fr.st (Or.inl rfl)), _, V, (by repeat (first | assumption | refine gs_eq ?_ | refine gs_ne (by omega) ?_ | exact is_of (by assumption) | refine gs_is ?_)), (by rw [jud_eq hjj hmv hPo hll hP, if_neg (fun z => q18 (by rw [z]; rfl)), if_pos (Or.inr q63)]; exact hA1.s49), ⟨(by repeat (first | assumption | refine gs_eq ?_ | refine gs_ne (by omega) ?_ | exact is_of (by assumption) | refine gs_is ?_)), (by repeat (first | assumption | refine gs_eq ?_ | refine gs_ne (by omega) ?_ | exact is_of (by assumption) | refine gs_is ?_)), (by repeat (first | assumption | refine gs_eq ?_ | refine gs_ne (by omega) ?_ | exact is_of (by assumption) | refine gs_is ?_)), (by repeat (first | assumption | refine gs_eq ?_ | refine gs_ne (by omega) ?_ | exact is_of (by assumption) | refine gs_is ?_)), (by repeat (first | assumption | refine gs_eq ?_ | refine gs_ne (by omega) ?_ | exact is_of (by assumption) | refine gs_is ?_)), (by repeat (first | assumption | refine gs_eq ?_ | refine gs_ne (by omega) ?_ | exact is_of (by assumption) | refine gs_is ?_)), (by repeat (first | assumption | refine gs_eq ?_ | refine gs_ne (by omega) ?_ | exact is_of (by assumption) | refine gs_is ?_)), (by repeat (first | assumption | refine gs_eq ?_ | refine gs_ne (by omega) ?_ | exact is_of (by assumption) | refine gs_is ?_)), (by repeat (first | assumption | refine gs_eq ?_ | refine gs_ne (by omega) ?_ | exact is_of (by assumption) | refine gs_is ?_))⟩⟩
      | exact ⟨rfl, hFa, _, V, (by repeat (first | assumption | refine gs_eq ?_ | refine gs_ne (by omega) ?_ | exact is_of (by assumption) | refine gs_is ?_)), (by rw [jud_eq hjj hmv hPo hll hP, if_neg (fun z => q18 (by rw [z]; rfl)), if_neg (fun z => z.elim q51 (fun y => y q63))]; exact hA1), ⟨(by repeat (first | assumption | refine gs_eq ?_ | refine gs_ne (by omega) ?_ | exact is_of (by assumption) | refine gs_is ?_)), (by repeat (first | assumption | refine gs_eq ?_ | refine gs_ne (by omega) ?_ | exact is_of (by assumption) | refine gs_is ?_)), (by repeat (first | assumption | refine gs_eq ?_ | refine gs_ne (by omega) ?_ | exact is_of (by assumption) | refine gs_is ?_)), (by repeat (first | assumption | refine gs_eq ?_ | refine gs_ne (by omega) ?_ | exact is_of (by assumption) | refine gs_is ?_)), (by repeat (first | assumption | refine gs_eq ?_ | refine gs_ne (by omega) ?_ | exact is_of (by assumption) | refine gs_is ?_)), (by repeat (first | assumption | refine gs_eq ?_ | refine gs_ne (by omega) ?_ | exact is_of (by assumption) | refine gs_is ?_)), (by repeat (first | assumption | refine gs_eq ?_ | refine gs_ne (by omega) ?_ | exact is_of (by assumption) | refine gs_is ?_)), (by repeat (first | assumption | refine gs_eq ?_ | refine gs_ne (by omega) ?_ | exact is_of (by assumption) | refine gs_is ?_)), (by repeat (first | assumption | refine gs_eq ?_ | refine gs_ne (by omega) ?_ | exact is_of (by assumption) | refine gs_is ?_))⟩⟩
    · refine r_aload_n 55 dX7_judge_54 rfl rfl rfl ?_
      refine r_getf 58 dX7_judge_55 rfl f_X7_7.r (by repeat (first | assumption | refine gs_eq ?_ | refine gs_ne (by omega) ?_ | exact is_of (by assumption) | refine gs_is ?_)) rfl ?_
      refine r_bipush (v := 57) 60 dX7_judge_58 rfl (by decide) ?_
      refine r_iald 61 dX7_judge_60 rfl (57) (by repeat (first | assumption | refine gs_eq ?_ | refine gs_ne (by omega) ?_ | exact is_of (by assumption) | refine gs_is ?_)) rfl (by decide) (by decide) ?_
      rw [hA1.2.2.2.2.2.2.2.2.2.2.1]
      refine r_bipush (v := 60) 63 dX7_judge_61 rfl (by decide) ?_
      refine r_icmp_lt 74 66 dX7_judge_63 (by decide) rfl (fun q63 => ?_) (fun q63 => ?_)
      · refine r_vret dX7_judge_74 rfl (by decide) (by decide) ?_
        first
        | exact ⟨rfl, Fr.tr hFa (Fr.st (Or.inl rfl)), _, V, (by repeat (first | assumption | refine gs_eq ?_ | refine gs_ne (by omega) ?_ | exact is_of (by assumption) | refine gs_is ?_)), (by rw [jud_eq hjj hmv hPo hll hP, if_pos (nI_z hl192 q18), if_pos q34]; exact hA1.s49), ⟨(by repeat (first | assumption | refine gs_eq ?_ | refine gs_ne (by omega) ?_ | exact is_of (by assumption) | refine gs_is ?_)), (by repeat (first | assumption | refine gs_eq ?_ | refine gs_ne (by omega) ?_ | exact is_of (by assumption) | refine gs_is ?_)), (by repeat (first | assumption | refine gs_eq ?_ | refine gs_ne (by omega) ?_ | exact is_of (by assumption) | refine gs_is ?_)), (by repeat (first | assumption | refine gs_eq ?_ | refine gs_ne (by omega) ?_ | exact is_of (by assumption) | refine gs_is ?_)), (by repeat (first | assumption | refine gs_eq ?_ | refine gs_ne (by omega) ?_ | exact is_of (by assumption) | refine gs_is ?_)), (by repeat (first | assumption | refine gs_eq ?_ | refine gs_ne (by omega) ?_ | exact is_of (by assumption) | refine gs_is ?_)), (by repeat (first | assumption | refine gs_eq ?_ | refine gs_ne (by omega) ?_ | exact is_of (by assumption) | refine gs_is ?_)), (by repeat (first | assumption | refine gs_eq ?_ | refine gs_ne (by omega) ?_ | exact is_of (by assumption) | refine gs_is ?_)), (by repeat (first | assumption | refine gs_eq ?_ | refine gs_ne (by omega) ?_ | exact is_of (by assumption) | refine gs_is ?_))⟩⟩
        | exact ⟨rfl, Fr.tr hFa (Fr.st (Or.inl rfl)), _, V, (by repeat (first | assumption | refine gs_eq ?_ | refine gs_ne (by omega) ?_ | exact is_of (by assumption) | refine gs_is ?_)), (by rw [jud_eq hjj hmv hPo hll hP, if_pos (nI_z hl192 q18), if_neg q34]; exact hA1.s49), ⟨(by repeat (first | assumption | refine gs_eq ?_ | refine gs_ne (by omega) ?_ | exact is_of (by assumption) | refine gs_is ?_)), (by repeat (first | assumption | refine gs_eq ?_ | refine gs_ne (by omega) ?_ | exact is_of (by assumption) | refine gs_is ?_)), (by repeat (first | assumption | refine gs_eq ?_ | refine gs_ne (by omega) ?_ | exact is_of (by assumption) | refine gs_is ?_)), (by repeat (first | assumption | refine gs_eq ?_ | refine gs_ne (by omega) ?_ | exact is_of (by assumption) | refine gs_is ?_)), (by repeat (first | assumption | refine gs_eq ?_ | refine gs_ne (by omega) ?_ | exact is_of (by assumption) | refine gs_is ?_)), (by repeat (first | assumption | refine gs_eq ?_ | refine gs_ne (by omega) ?_ | exact is_of (by assumption) | refine gs_is ?_)), (by repeat (first | assumption | refine gs_eq ?_ | refine gs_ne (by omega) ?_ | exact is_of (by assumption) | refine gs_is ?_)), (by repeat (first | assumption | refine gs_eq ?_ | refine gs_ne (by omega) ?_ | exact is_of (by assumption) | refine gs_is ?_)), (by repeat (first | assumption | refine gs_eq ?_ | refine gs_ne (by omega) ?_ | exact is_of (by assumption) | refine gs_is ?_))⟩⟩
        | exact ⟨rfl, Fr.tr hFa (Fr.st (Or.inl rfl)), _, V, (by repeat (first | assumption | refine gs_eq ?_ | refine gs_ne (by omega) ?_ | exact is_of (by assumption) | refine gs_is ?_)), (by rw [jud_eq hjj hmv hPo hll hP, if_neg (fun z => q18 (by rw [z]; rfl)), if_pos (Or.inl q51)]; exact hA1.s49), ⟨(by repeat (first | assumption | refine gs_eq ?_ | refine gs_ne (by omega) ?_ | exact is_of (by assumption) | refine gs_is ?_)), (by repeat (first | assumption | refine gs_eq ?_ | refine gs_ne (by omega) ?_ | exact is_of (by assumption) | refine gs_is ?_)), (by repeat (first | assumption | refine gs_eq ?_ | refine gs_ne (by omega) ?_ | exact is_of (by assumption) | refine gs_is ?_)), (by repeat (first | assumption | refine gs_eq ?_ | refine gs_ne (by omega) ?_ | exact is_of (by assumption) | refine gs_is ?_)), (by repeat (first | assumption | refine gs_eq ?_ | refine gs_ne (by omega) ?_ | exact is_of (by assumption) | refine gs_is ?_)), (by repeat (first | assumption | refine gs_eq ?_ | refine gs_ne (by omega) ?_ | exact is_of (by assumption) | refine gs_is ?_)), (by repeat (first | assumption | refine gs_eq ?_ | refine gs_ne (by omega) ?_ | exact is_of (by assumption) | refine gs_is ?_)), (by repeat (first | assumption | refine gs_eq ?_ | refine gs_ne (by omega) ?_ | exact is_of (by assumption) | refine gs_is ?_)), (by repeat (first | assumption | refine gs_eq ?_ | refine gs_ne (by omega) ?_ | exact is_of (by assumption) | refine gs_is ?_))⟩⟩
        | exact ⟨rfl, Fr.tr hFa (Fr.st (Or.inl rfl)), _, V, (by repeat (first | assumption | refine gs_eq ?_ | refine gs_ne (by omega) ?_ | exact is_of (by assumption) | refine gs_is ?_)), (by rw [jud_eq hjj hmv hPo hll hP, if_neg (fun z => q18 (by rw [z]; rfl)), if_pos (Or.inr q63)]; exact hA1.s49), ⟨(by repeat (first | assumption | refine gs_eq ?_ | refine gs_ne (by omega) ?_ | exact is_of (by assumption) | refine gs_is ?_)), (by repeat (first | assumption | refine gs_eq ?_ | refine gs_ne (by omega) ?_ | exact is_of (by assumption) | refine gs_is ?_)), (by repeat (first | assumption | refine gs_eq ?_ | refine gs_ne (by omega) ?_ | exact is_of (by assumption) | refine gs_is ?_)), (by repeat (first | assumption | refine gs_eq ?_ | refine gs_ne (by omega) ?_ | exact is_of (by assumption) | refine gs_is ?_)), (by repeat (first | assumption | refine gs_eq ?_ | refine gs_ne (by omega) ?_ | exact is_of (by assumption) | refine gs_is ?_)), (by repeat (first | assumption | refine gs_eq ?_ | refine gs_ne (by omega) ?_ | exact is_of (by assumption) | refine gs_is ?_)), (by repeat (first | assumption | refine gs_eq ?_ | refine gs_ne (by omega) ?_ | exact is_of (by assumption) | refine gs_is ?_)), (by repeat (first | assumption | refine gs_eq ?_ | refine gs_ne (by omega) ?_ | exact is_of (by assumption) | refine gs_is ?_)), (by repeat (first | assumption | refine gs_eq ?_ | refine gs_ne (by omega) ?_ | exact is_of (by assumption) | refine gs_is ?_))⟩⟩
        | exact ⟨rfl, hFa, _, V, (by repeat (first | assumption | refine gs_eq ?_ | refine gs_ne (by omega) ?_ | exact is_of (by assumption) | refine gs_is ?_)), (by rw [jud_eq hjj hmv hPo hll hP, if_neg (fun z => q18 (by rw [z]; rfl)), if_neg (fun z => z.elim q51 (fun y => y q63))]; exact hA1), ⟨(by repeat (first | assumption | refine gs_eq ?_ | refine gs_ne (by omega) ?_ | exact is_of (by assumption) | refine gs_is ?_)), (by repeat (first | assumption | refine gs_eq ?_ | refine gs_ne (by omega) ?_ | exact is_of (by assumption) | refine gs_is ?_)), (by repeat (first | assumption | refine gs_eq ?_ | refine gs_ne (by omega) ?_ | exact is_of (by assumption) | refine gs_is ?_)), (by repeat (first | assumption | refine gs_eq ?_ | refine gs_ne (by omega) ?_ | exact is_of (by assumption) | refine gs_is ?_)), (by repeat (first | assumption | refine gs_eq ?_ | refine gs_ne (by omega) ?_ | exact is_of (by assumption) | refine gs_is ?_)), (by repeat (first | assumption | refine gs_eq ?_ | refine gs_ne (by omega) ?_ | exact is_of (by assumption) | refine gs_is ?_)), (by repeat (first | assumption | refine gs_eq ?_ | refine gs_ne (by omega) ?_ | exact is_of (by assumption) | refine gs_is ?_)), (by repeat (first | assumption | refine gs_eq ?_ | refine gs_ne (by omega) ?_ | exact is_of (by assumption) | refine gs_is ?_)), (by repeat (first | assumption | refine gs_eq ?_ | refine gs_ne (by omega) ?_ | exact is_of (by assumption) | refine gs_is ?_))⟩⟩
      · refine r_aload_n 67 dX7_judge_66 rfl rfl rfl ?_
        refine r_getf 70 dX7_judge_67 rfl f_X7_7.r (by repeat (first | assumption | refine gs_eq ?_ | refine gs_ne (by omega) ?_ | exact is_of (by assumption) | refine gs_is ?_)) rfl ?_
        refine r_bipush (v := 49) 72 dX7_judge_70 rfl (by decide) ?_
        refine r_iconst (v := 3) 73 dX7_judge_72 rfl (by decide) ?_
        refine r_iast 74 dX7_judge_73 rfl (49) (by repeat (first | assumption | refine gs_eq ?_ | refine gs_ne (by omega) ?_ | exact is_of (by assumption) | refine gs_is ?_)) rfl (by decide) (by decide) ?_
        refine r_vret dX7_judge_74 rfl (by decide) (by decide) ?_
        first
        | exact ⟨rfl, Fr.tr hFa (Fr.st (Or.inl rfl)), _, V, (by repeat (first | assumption | refine gs_eq ?_ | refine gs_ne (by omega) ?_ | exact is_of (by assumption) | refine gs_is ?_)), (by rw [jud_eq hjj hmv hPo hll hP, if_pos (nI_z hl192 q18), if_pos q34]; exact hA1.s49), ⟨(by repeat (first | assumption | refine gs_eq ?_ | refine gs_ne (by omega) ?_ | exact is_of (by assumption) | refine gs_is ?_)), (by repeat (first | assumption | refine gs_eq ?_ | refine gs_ne (by omega) ?_ | exact is_of (by assumption) | refine gs_is ?_)), (by repeat (first | assumption | refine gs_eq ?_ | refine gs_ne (by omega) ?_ | exact is_of (by assumption) | refine gs_is ?_)), (by repeat (first | assumption | refine gs_eq ?_ | refine gs_ne (by omega) ?_ | exact is_of (by assumption) | refine gs_is ?_)), (by repeat (first | assumption | refine gs_eq ?_ | refine gs_ne (by omega) ?_ | exact is_of (by assumption) | refine gs_is ?_)), (by repeat (first | assumption | refine gs_eq ?_ | refine gs_ne (by omega) ?_ | exact is_of (by assumption) | refine gs_is ?_)), (by repeat (first | assumption | refine gs_eq ?_ | refine gs_ne (by omega) ?_ | exact is_of (by assumption) | refine gs_is ?_)), (by repeat (first | assumption | refine gs_eq ?_ | refine gs_ne (by omega) ?_ | exact is_of (by assumption) | refine gs_is ?_)), (by repeat (first | assumption | refine gs_eq ?_ | refine gs_ne (by omega) ?_ | exact is_of (by assumption) | refine gs_is ?_))⟩⟩
        | exact ⟨rfl, Fr.tr hFa (Fr.st (Or.inl rfl)), _, V, (by repeat (first | assumption | refine gs_eq ?_ | refine gs_ne (by omega) ?_ | exact is_of (by assumption) | refine gs_is ?_)), (by rw [jud_eq hjj hmv hPo hll hP, if_pos (nI_z hl192 q18), if_neg q34]; exact hA1.s49), ⟨(by repeat (first | assumption | refine gs_eq ?_ | refine gs_ne (by omega) ?_ | exact is_of (by assumption) | refine gs_is ?_)), (by repeat (first | assumption | refine gs_eq ?_ | refine gs_ne (by omega) ?_ | exact is_of (by assumption) | refine gs_is ?_)), (by repeat (first | assumption | refine gs_eq ?_ | refine gs_ne (by omega) ?_ | exact is_of (by assumption) | refine gs_is ?_)), (by repeat (first | assumption | refine gs_eq ?_ | refine gs_ne (by omega) ?_ | exact is_of (by assumption) | refine gs_is ?_)), (by repeat (first | assumption | refine gs_eq ?_ | refine gs_ne (by omega) ?_ | exact is_of (by assumption) | refine gs_is ?_)), (by repeat (first | assumption | refine gs_eq ?_ | refine gs_ne (by omega) ?_ | exact is_of (by assumption) | refine gs_is ?_)), (by repeat (first | assumption | refine gs_eq ?_ | refine gs_ne (by omega) ?_ | exact is_of (by assumption) | refine gs_is ?_)), (by repeat (first | assumption | refine gs_eq ?_ | refine gs_ne (by omega) ?_ | exact is_of (by assumption) | refine gs_is ?_)), (by repeat (first | assumption | refine gs_eq ?_ | refine gs_ne (by omega) ?_ | exact is_of (by assumption) | refine gs_is ?_))⟩⟩
        | exact ⟨rfl, Fr.tr hFa (Fr.st (Or.inl rfl)), _, V, (by repeat (first | assumption | refine gs_eq ?_ | refine gs_ne (by omega) ?_ | exact is_of (by assumption) | refine gs_is ?_)), (by rw [jud_eq hjj hmv hPo hll hP, if_neg (fun z => q18 (by rw [z]; rfl)), if_pos (Or.inl q51)]; exact hA1.s49), ⟨(by repeat (first | assumption | refine gs_eq ?_ | refine gs_ne (by omega) ?_ | exact is_of (by assumption) | refine gs_is ?_)), (by repeat (first | assumption | refine gs_eq ?_ | refine gs_ne (by omega) ?_ | exact is_of (by assumption) | refine gs_is ?_)), (by repeat (first | assumption | refine gs_eq ?_ | refine gs_ne (by omega) ?_ | exact is_of (by assumption) | refine gs_is ?_)), (by repeat (first | assumption | refine gs_eq ?_ | refine gs_ne (by omega) ?_ | exact is_of (by assumption) | refine gs_is ?_)), (by repeat (first | assumption | refine gs_eq ?_ | refine gs_ne (by omega) ?_ | exact is_of (by assumption) | refine gs_is ?_)), (by repeat (first | assumption | refine gs_eq ?_ | refine gs_ne (by omega) ?_ | exact is_of (by assumption) | refine gs_is ?_)), (by repeat (first | assumption | refine gs_eq ?_ | refine gs_ne (by omega) ?_ | exact is_of (by assumption) | refine gs_is ?_)), (by repeat (first | assumption | refine gs_eq ?_ | refine gs_ne (by omega) ?_ | exact is_of (by assumption) | refine gs_is ?_)), (by repeat (first | assumption | refine gs_eq ?_ | refine gs_ne (by omega) ?_ | exact is_of (by assumption) | refine gs_is ?_))⟩⟩
        | exact ⟨rfl, Fr.tr hFa (Fr.st (Or.inl rfl)), _, V, (by repeat (first | assumption | refine gs_eq ?_ | refine gs_ne (by omega) ?_ | exact is_of (by assumption) | refine gs_is ?_)), (by rw [jud_eq hjj hmv hPo hll hP, if_neg (fun z => q18 (by rw [z]; rfl)), if_pos (Or.inr q63)]; exact hA1.s49), ⟨(by repeat (first | assumption | refine gs_eq ?_ | refine gs_ne (by omega) ?_ | exact is_of (by assumption) | refine gs_is ?_)), (by repeat (first | assumption | refine gs_eq ?_ | refine gs_ne (by omega) ?_ | exact is_of (by assumption) | refine gs_is ?_)), (by repeat (first | assumption | refine gs_eq ?_ | refine gs_ne (by omega) ?_ | exact is_of (by assumption) | refine gs_is ?_)), (by repeat (first | assumption | refine gs_eq ?_ | refine gs_ne (by omega) ?_ | exact is_of (by assumption) | refine gs_is ?_)), (by repeat (first | assumption | refine gs_eq ?_ | refine gs_ne (by omega) ?_ | exact is_of (by assumption) | refine gs_is ?_)), (by repeat (first | assumption | refine gs_eq ?_ | refine gs_ne (by omega) ?_ | exact is_of (by assumption) | refine gs_is ?_)), (by repeat (first | assumption | refine gs_eq ?_ | refine gs_ne (by omega) ?_ | exact is_of (by assumption) | refine gs_is ?_)), (by repeat (first | assumption | refine gs_eq ?_ | refine gs_ne (by omega) ?_ | exact is_of (by assumption) | refine gs_is ?_)), (by repeat (first | assumption | refine gs_eq ?_ | refine gs_ne (by omega) ?_ | exact is_of (by assumption) | refine gs_is ?_))⟩⟩
        | exact ⟨rfl, hFa, _, V, (by repeat (first | assumption | refine gs_eq ?_ | refine gs_ne (by omega) ?_ | exact is_of (by assumption) | refine gs_is ?_)), (by rw [jud_eq hjj hmv hPo hll hP, if_neg (fun z => q18 (by rw [z]; rfl)), if_neg (fun z => z.elim q51 (fun y => y q63))]; exact hA1), ⟨(by repeat (first | assumption | refine gs_eq ?_ | refine gs_ne (by omega) ?_ | exact is_of (by assumption) | refine gs_is ?_)), (by repeat (first | assumption | refine gs_eq ?_ | refine gs_ne (by omega) ?_ | exact is_of (by assumption) | refine gs_is ?_)), (by repeat (first | assumption | refine gs_eq ?_ | refine gs_ne (by omega) ?_ | exact is_of (by assumption) | refine gs_is ?_)), (by repeat (first | assumption | refine gs_eq ?_ | refine gs_ne (by omega) ?_ | exact is_of (by assumption) | refine gs_is ?_)), (by repeat (first | assumption | refine gs_eq ?_ | refine gs_ne (by omega) ?_ | exact is_of (by assumption) | refine gs_is ?_)), (by repeat (first | assumption | refine gs_eq ?_ | refine gs_ne (by omega) ?_ | exact is_of (by assumption) | refine gs_is ?_)), (by repeat (first | assumption | refine gs_eq ?_ | refine gs_ne (by omega) ?_ | exact is_of (by assumption) | refine gs_is ?_)), (by repeat (first | assumption | refine gs_eq ?_ | refine gs_ne (by omega) ?_ | exact is_of (by assumption) | refine gs_is ?_)), (by repeat (first | assumption | refine gs_eq ?_ | refine gs_ne (by omega) ?_ | exact is_of (by assumption) | refine gs_is ?_))⟩⟩
  · refine r_aload_n 22 dX7_judge_21 rfl rfl rfl ?_
    refine r_getf 25 dX7_judge_22 rfl f_X7_7.r (by repeat (first | assumption | refine gs_eq ?_ | refine gs_ne (by omega) ?_ | exact is_of (by assumption) | refine gs_is ?_)) rfl ?_
    refine r_bipush (v := 49) 27 dX7_judge_25 rfl (by decide) ?_
    refine r_aload_n 28 dX7_judge_27 rfl rfl rfl ?_
    refine r_getf 31 dX7_judge_28 rfl f_X7_7.r (by repeat (first | assumption | refine gs_eq ?_ | refine gs_ne (by omega) ?_ | exact is_of (by assumption) | refine gs_is ?_)) rfl ?_
    refine r_bipush (v := 48) 33 dX7_judge_31 rfl (by decide) ?_
    refine r_iald 34 dX7_judge_33 rfl (48) (by repeat (first | assumption | refine gs_eq ?_ | refine gs_ne (by omega) ?_ | exact is_of (by assumption) | refine gs_is ?_)) rfl (by decide) (by decide) ?_
    rw [hA1.2.1]
    refine r_if_ne 41 37 dX7_judge_34 (by decide) rfl (fun q34 => ?_) (fun q34 => ?_)
    · refine r_iconst (v := 1) 42 dX7_judge_41 rfl (by decide) ?_
      refine r_iast 43 dX7_judge_42 rfl (49) (by repeat (first | assumption | refine gs_eq ?_ | refine gs_ne (by omega) ?_ | exact is_of (by assumption) | refine gs_is ?_)) rfl (by decide) (by decide) ?_
      refine r_goto 74 dX7_judge_43 (by decide) ?_
      refine r_vret dX7_judge_74 rfl (by decide) (by decide) ?_
      first
      | exact ⟨rfl, Fr.tr hFa (Fr.st (Or.inl rfl)), _, V, (by repeat (first | assumption | refine gs_eq ?_ | refine gs_ne (by omega) ?_ | exact is_of (by assumption) | refine gs_is ?_)), (by rw [jud_eq hjj hmv hPo hll hP, if_pos (nI_z hl192 q18), if_pos q34]; exact hA1.s49), ⟨(by repeat (first | assumption | refine gs_eq ?_ | refine gs_ne (by omega) ?_ | exact is_of (by assumption) | refine gs_is ?_)), (by repeat (first | assumption | refine gs_eq ?_ | refine gs_ne (by omega) ?_ | exact is_of (by assumption) | refine gs_is ?_)), (by repeat (first | assumption | refine gs_eq ?_ | refine gs_ne (by omega) ?_ | exact is_of (by assumption) | refine gs_is ?_)), (by repeat (first | assumption | refine gs_eq ?_ | refine gs_ne (by omega) ?_ | exact is_of (by assumption) | refine gs_is ?_)), (by repeat (first | assumption | refine gs_eq ?_ | refine gs_ne (by omega) ?_ | exact is_of (by assumption) | refine gs_is ?_)), (by repeat (first | assumption | refine gs_eq ?_ | refine gs_ne (by omega) ?_ | exact is_of (by assumption) | refine gs_is ?_)), (by repeat (first | assumption | refine gs_eq ?_ | refine gs_ne (by omega) ?_ | exact is_of (by assumption) | refine gs_is ?_)), (by repeat (first | assumption | refine gs_eq ?_ | refine gs_ne (by omega) ?_ | exact is_of (by assumption) | refine gs_is ?_)), (by repeat (first | assumption | refine gs_eq ?_ | refine gs_ne (by omega) ?_ | exact is_of (by assumption) | refine gs_is ?_))⟩⟩
      | exact ⟨rfl, Fr.tr hFa (Fr.st (Or.inl rfl)), _, V, (by repeat (first | assumption | refine gs_eq ?_ | refine gs_ne (by omega) ?_ | exact is_of (by assumption) | refine gs_is ?_)), (by rw [jud_eq hjj hmv hPo hll hP, if_pos (nI_z hl192 q18), if_neg q34]; exact hA1.s49), ⟨(by repeat (first | assumption | refine gs_eq ?_ | refine gs_ne (by omega) ?_ | exact is_of (by assumption) | refine gs_is ?_)), (by repeat (first | assumption | refine gs_eq ?_ | refine gs_ne (by omega) ?_ | exact is_of (by assumption) | refine gs_is ?_)), (by repeat (first | assumption | refine gs_eq ?_ | refine gs_ne (by omega) ?_ | exact is_of (by assumption) | refine gs_is ?_)), (by repeat (first | assumption | refine gs_eq ?_ | refine gs_ne (by omega) ?_ | exact is_of (by assumption) | refine gs_is ?_)), (by repeat (first | assumption | refine gs_eq ?_ | refine gs_ne (by omega) ?_ | exact is_of (by assumption) | refine gs_is ?_)), (by repeat (first | assumption | refine gs_eq ?_ | refine gs_ne (by omega) ?_ | exact is_of (by assumption) | refine gs_is ?_)), (by repeat (first | assumption | refine gs_eq ?_ | refine gs_ne (by omega) ?_ | exact is_of (by assumption) | refine gs_is ?_)), (by repeat (first | assumption | refine gs_eq ?_ | refine gs_ne (by omega) ?_ | exact is_of (by assumption) | refine gs_is ?_)), (by repeat (first | assumption | refine gs_eq ?_ | refine gs_ne (by omega) ?_ | exact is_of (by assumption) | refine gs_is ?_))⟩⟩
      | exact ⟨rfl, Fr.tr hFa (Fr.st (Or.inl rfl)), _, V, (by repeat (first | assumption | refine gs_eq ?_ | refine gs_ne (by omega) ?_ | exact is_of (by assumption) | refine gs_is ?_)), (by rw [jud_eq hjj hmv hPo hll hP, if_neg (fun z => q18 (by rw [z]; rfl)), if_pos (Or.inl q51)]; exact hA1.s49), ⟨(by repeat (first | assumption | refine gs_eq ?_ | refine gs_ne (by omega) ?_ | exact is_of (by assumption) | refine gs_is ?_)), (by repeat (first | assumption | refine gs_eq ?_ | refine gs_ne (by omega) ?_ | exact is_of (by assumption) | refine gs_is ?_)), (by repeat (first | assumption | refine gs_eq ?_ | refine gs_ne (by omega) ?_ | exact is_of (by assumption) | refine gs_is ?_)), (by repeat (first | assumption | refine gs_eq ?_ | refine gs_ne (by omega) ?_ | exact is_of (by assumption) | refine gs_is ?_)), (by repeat (first | assumption | refine gs_eq ?_ | refine gs_ne (by omega) ?_ | exact is_of (by assumption) | refine gs_is ?_)), (by repeat (first | assumption | refine gs_eq ?_ | refine gs_ne (by omega) ?_ | exact is_of (by assumption) | refine gs_is ?_)), (by repeat (first | assumption | refine gs_eq ?_ | refine gs_ne (by omega) ?_ | exact is_of (by assumption) | refine gs_is ?_)), (by repeat (first | assumption | refine gs_eq ?_ | refine gs_ne (by omega) ?_ | exact is_of (by assumption) | refine gs_is ?_)), (by repeat (first | assumption | refine gs_eq ?_ | refine gs_ne (by omega) ?_ | exact is_of (by assumption) | refine gs_is ?_))⟩⟩
      | exact ⟨rfl, Fr.tr hFa (Fr.st (Or.inl rfl)), _, V, (by repeat (first | assumption | refine gs_eq ?_ | refine gs_ne (by omega) ?_ | exact is_of (by assumption) | refine gs_is ?_)), (by rw [jud_eq hjj hmv hPo hll hP, if_neg (fun z => q18 (by rw [z]; rfl)), if_pos (Or.inr q63)]; exact hA1.s49), ⟨(by repeat (first | assumption | refine gs_eq ?_ | refine gs_ne (by omega) ?_ | exact is_of (by assumption) | refine gs_is ?_)), (by repeat (first | assumption | refine gs_eq ?_ | refine gs_ne (by omega) ?_ | exact is_of (by assumption) | refine gs_is ?_)), (by repeat (first | assumption | refine gs_eq ?_ | refine gs_ne (by omega) ?_ | exact is_of (by assumption) | refine gs_is ?_)), (by repeat (first | assumption | refine gs_eq ?_ | refine gs_ne (by omega) ?_ | exact is_of (by assumption) | refine gs_is ?_)), (by repeat (first | assumption | refine gs_eq ?_ | refine gs_ne (by omega) ?_ | exact is_of (by assumption) | refine gs_is ?_)), (by repeat (first | assumption | refine gs_eq ?_ | refine gs_ne (by omega) ?_ | exact is_of (by assumption) | refine gs_is ?_)), (by repeat (first | assumption | refine gs_eq ?_ | refine gs_ne (by omega) ?_ | exact is_of (by assumption) | refine gs_is ?_)), (by repeat (first | assumption | refine gs_eq ?_ | refine gs_ne (by omega) ?_ | exact is_of (by assumption) | refine gs_is ?_)), (by repeat (first | assumption | refine gs_eq ?_ | refine gs_ne (by omega) ?_ | exact is_of (by assumption) | refine gs_is ?_))⟩⟩
      | exact ⟨rfl, hFa, _, V, (by repeat (first | assumption | refine gs_eq ?_ | refine gs_ne (by omega) ?_ | exact is_of (by assumption) | refine gs_is ?_)), (by rw [jud_eq hjj hmv hPo hll hP, if_neg (fun z => q18 (by rw [z]; rfl)), if_neg (fun z => z.elim q51 (fun y => y q63))]; exact hA1), ⟨(by repeat (first | assumption | refine gs_eq ?_ | refine gs_ne (by omega) ?_ | exact is_of (by assumption) | refine gs_is ?_)), (by repeat (first | assumption | refine gs_eq ?_ | refine gs_ne (by omega) ?_ | exact is_of (by assumption) | refine gs_is ?_)), (by repeat (first | assumption | refine gs_eq ?_ | refine gs_ne (by omega) ?_ | exact is_of (by assumption) | refine gs_is ?_)), (by repeat (first | assumption | refine gs_eq ?_ | refine gs_ne (by omega) ?_ | exact is_of (by assumption) | refine gs_is ?_)), (by repeat (first | assumption | refine gs_eq ?_ | refine gs_ne (by omega) ?_ | exact is_of (by assumption) | refine gs_is ?_)), (by repeat (first | assumption | refine gs_eq ?_ | refine gs_ne (by omega) ?_ | exact is_of (by assumption) | refine gs_is ?_)), (by repeat (first | assumption | refine gs_eq ?_ | refine gs_ne (by omega) ?_ | exact is_of (by assumption) | refine gs_is ?_)), (by repeat (first | assumption | refine gs_eq ?_ | refine gs_ne (by omega) ?_ | exact is_of (by assumption) | refine gs_is ?_)), (by repeat (first | assumption | refine gs_eq ?_ | refine gs_ne (by omega) ?_ | exact is_of (by assumption) | refine gs_is ?_))⟩⟩
    · refine r_iconst (v := 2) 38 dX7_judge_37 rfl (by decide) ?_
      refine r_goto 42 dX7_judge_38 (by decide) ?_
      refine r_iast 43 dX7_judge_42 rfl (49) (by repeat (first | assumption | refine gs_eq ?_ | refine gs_ne (by omega) ?_ | exact is_of (by assumption) | refine gs_is ?_)) rfl (by decide) (by decide) ?_
      refine r_goto 74 dX7_judge_43 (by decide) ?_
      refine r_vret dX7_judge_74 rfl (by decide) (by decide) ?_
      first
      | exact ⟨rfl, Fr.tr hFa (Fr.st (Or.inl rfl)), _, V, (by repeat (first | assumption | refine gs_eq ?_ | refine gs_ne (by omega) ?_ | exact is_of (by assumption) | refine gs_is ?_)), (by rw [jud_eq hjj hmv hPo hll hP, if_pos (nI_z hl192 q18), if_pos q34]; exact hA1.s49), ⟨(by repeat (first | assumption | refine gs_eq ?_ | refine gs_ne (by omega) ?_ | exact is_of (by assumption) | refine gs_is ?_)), (by repeat (first | assumption | refine gs_eq ?_ | refine gs_ne (by omega) ?_ | exact is_of (by assumption) | refine gs_is ?_)), (by repeat (first | assumption | refine gs_eq ?_ | refine gs_ne (by omega) ?_ | exact is_of (by assumption) | refine gs_is ?_)), (by repeat (first | assumption | refine gs_eq ?_ | refine gs_ne (by omega) ?_ | exact is_of (by assumption) | refine gs_is ?_)), (by repeat (first | assumption | refine gs_eq ?_ | refine gs_ne (by omega) ?_ | exact is_of (by assumption) | refine gs_is ?_)), (by repeat (first | assumption | refine gs_eq ?_ | refine gs_ne (by omega) ?_ | exact is_of (by assumption) | refine gs_is ?_)), (by repeat (first | assumption | refine gs_eq ?_ | refine gs_ne (by omega) ?_ | exact is_of (by assumption) | refine gs_is ?_)), (by repeat (first | assumption | refine gs_eq ?_ | refine gs_ne (by omega) ?_ | exact is_of (by assumption) | refine gs_is ?_)), (by repeat (first | assumption | refine gs_eq ?_ | refine gs_ne (by omega) ?_ | exact is_of (by assumption) | refine gs_is ?_))⟩⟩
      | exact ⟨rfl, Fr.tr hFa (Fr.st (Or.inl rfl)), _, V, (by repeat (first | assumption | refine gs_eq ?_ | refine gs_ne (by omega) ?_ | exact is_of (by assumption) | refine gs_is ?_)), (by rw [jud_eq hjj hmv hPo hll hP, if_pos (nI_z hl192 q18), if_neg q34]; exact hA1.s49), ⟨(by repeat (first | assumption | refine gs_eq ?_ | refine gs_ne (by omega) ?_ | exact is_of (by assumption) | refine gs_is ?_)), (by repeat (first | assumption | refine gs_eq ?_ | refine gs_ne (by omega) ?_ | exact is_of (by assumption) | refine gs_is ?_)), (by repeat (first | assumption | refine gs_eq ?_ | refine gs_ne (by omega) ?_ | exact is_of (by assumption) | refine gs_is ?_)), (by repeat (first | assumption | refine gs_eq ?_ | refine gs_ne (by omega) ?_ | exact is_of (by assumption) | refine gs_is ?_)), (by repeat (first | assumption | refine gs_eq ?_ | refine gs_ne (by omega) ?_ | exact is_of (by assumption) | refine gs_is ?_)), (by repeat (first | assumption | refine gs_eq ?_ | refine gs_ne (by omega) ?_ | exact is_of (by assumption) | refine gs_is ?_)), (by repeat (first | assumption | refine gs_eq ?_ | refine gs_ne (by omega) ?_ | exact is_of (by assumption) | refine gs_is ?_)), (by repeat (first | assumption | refine gs_eq ?_ | refine gs_ne (by omega) ?_ | exact is_of (by assumption) | refine gs_is ?_)), (by repeat (first | assumption | refine gs_eq ?_ | refine gs_ne (by omega) ?_ | exact is_of (by assumption) | refine gs_is ?_))⟩⟩
      | exact ⟨rfl, Fr.tr hFa (Fr.st (Or.inl rfl)), _, V, (by repeat (first | assumption | refine gs_eq ?_ | refine gs_ne (by omega) ?_ | exact is_of (by assumption) | refine gs_is ?_)), (by rw [jud_eq hjj hmv hPo hll hP, if_neg (fun z => q18 (by rw [z]; rfl)), if_pos (Or.inl q51)]; exact hA1.s49), ⟨(by repeat (first | assumption | refine gs_eq ?_ | refine gs_ne (by omega) ?_ | exact is_of (by assumption) | refine gs_is ?_)), (by repeat (first | assumption | refine gs_eq ?_ | refine gs_ne (by omega) ?_ | exact is_of (by assumption) | refine gs_is ?_)), (by repeat (first | assumption | refine gs_eq ?_ | refine gs_ne (by omega) ?_ | exact is_of (by assumption) | refine gs_is ?_)), (by repeat (first | assumption | refine gs_eq ?_ | refine gs_ne (by omega) ?_ | exact is_of (by assumption) | refine gs_is ?_)), (by repeat (first | assumption | refine gs_eq ?_ | refine gs_ne (by omega) ?_ | exact is_of (by assumption) | refine gs_is ?_)), (by repeat (first | assumption | refine gs_eq ?_ | refine gs_ne (by omega) ?_ | exact is_of (by assumption) | refine gs_is ?_)), (by repeat (first | assumption | refine gs_eq ?_ | refine gs_ne (by omega) ?_ | exact is_of (by assumption) | refine gs_is ?_)), (by repeat (first | assumption | refine gs_eq ?_ | refine gs_ne (by omega) ?_ | exact is_of (by assumption) | refine gs_is ?_)), (by repeat (first | assumption | refine gs_eq ?_ | refine gs_ne (by omega) ?_ | exact is_of (by assumption) | refine gs_is ?_))⟩⟩
      | exact ⟨rfl, Fr.tr hFa (Fr.st (Or.inl rfl)), _, V, (by repeat (first | assumption | refine gs_eq ?_ | refine gs_ne (by omega) ?_ | exact is_of (by assumption) | refine gs_is ?_)), (by rw [jud_eq hjj hmv hPo hll hP, if_neg (fun z => q18 (by rw [z]; rfl)), if_pos (Or.inr q63)]; exact hA1.s49), ⟨(by repeat (first | assumption | refine gs_eq ?_ | refine gs_ne (by omega) ?_ | exact is_of (by assumption) | refine gs_is ?_)), (by repeat (first | assumption | refine gs_eq ?_ | refine gs_ne (by omega) ?_ | exact is_of (by assumption) | refine gs_is ?_)), (by repeat (first | assumption | refine gs_eq ?_ | refine gs_ne (by omega) ?_ | exact is_of (by assumption) | refine gs_is ?_)), (by repeat (first | assumption | refine gs_eq ?_ | refine gs_ne (by omega) ?_ | exact is_of (by assumption) | refine gs_is ?_)), (by repeat (first | assumption | refine gs_eq ?_ | refine gs_ne (by omega) ?_ | exact is_of (by assumption) | refine gs_is ?_)), (by repeat (first | assumption | refine gs_eq ?_ | refine gs_ne (by omega) ?_ | exact is_of (by assumption) | refine gs_is ?_)), (by repeat (first | assumption | refine gs_eq ?_ | refine gs_ne (by omega) ?_ | exact is_of (by assumption) | refine gs_is ?_)), (by repeat (first | assumption | refine gs_eq ?_ | refine gs_ne (by omega) ?_ | exact is_of (by assumption) | refine gs_is ?_)), (by repeat (first | assumption | refine gs_eq ?_ | refine gs_ne (by omega) ?_ | exact is_of (by assumption) | refine gs_is ?_))⟩⟩
      | exact ⟨rfl, hFa, _, V, (by repeat (first | assumption | refine gs_eq ?_ | refine gs_ne (by omega) ?_ | exact is_of (by assumption) | refine gs_is ?_)), (by rw [jud_eq hjj hmv hPo hll hP, if_neg (fun z => q18 (by rw [z]; rfl)), if_neg (fun z => z.elim q51 (fun y => y q63))]; exact hA1), ⟨(by repeat (first | assumption | refine gs_eq ?_ | refine gs_ne (by omega) ?_ | exact is_of (by assumption) | refine gs_is ?_)), (by repeat (first | assumption | refine gs_eq ?_ | refine gs_ne (by omega) ?_ | exact is_of (by assumption) | refine gs_is ?_)), (by repeat (first | assumption | refine gs_eq ?_ | refine gs_ne (by omega) ?_ | exact is_of (by assumption) | refine gs_is ?_)), (by repeat (first | assumption | refine gs_eq ?_ | refine gs_ne (by omega) ?_ | exact is_of (by assumption) | refine gs_is ?_)), (by repeat (first | assumption | refine gs_eq ?_ | refine gs_ne (by omega) ?_ | exact is_of (by assumption) | refine gs_is ?_)), (by repeat (first | assumption | refine gs_eq ?_ | refine gs_ne (by omega) ?_ | exact is_of (by assumption) | refine gs_is ?_)), (by repeat (first | assumption | refine gs_eq ?_ | refine gs_ne (by omega) ?_ | exact is_of (by assumption) | refine gs_is ?_)), (by repeat (first | assumption | refine gs_eq ?_ | refine gs_ne (by omega) ?_ | exact is_of (by assumption) | refine gs_is ?_)), (by repeat (first | assumption | refine gs_eq ?_ | refine gs_ne (by omega) ?_ | exact is_of (by assumption) | refine gs_is ?_))⟩⟩

set_option maxRecDepth 100000 in
theorem tX7_beginHere {Γ : CT} {w : PW} {pm ty rm sp wr : Int32} {z : Nat → Int32} {f : Nat → Int32} {mv oc cs : Int32} {cl : Nat → Int32} {mk jp : Int32} {lo : Nat → Int32} {qt : Int32} {P : List P3} {W : MW} (ho : w[43]? = some (oM pm ty rm sp wr)) (hz : w[44]? = some (aI 431 z)) (hA : zA z f mv oc cs cl mk jp lo qt P) (hW : isW w W) (hf : okF f) (hmv : mv = 0 ∨ mv = 1) : Cl Γ yX7_beginHere XX7_beginHere 7 0 0 [.ref 43] w (rN (toZ w f mv (judO f mv [t3O f mv (-6)] 0) cs cl 0 (-6) (fun _ => 0) 0 [(f, mv, -6)])) := by
  refine Cl.of (ls := [some (.ref 43)]) rfl (by decide +kernel) (fun h => by cases h) (Nat.le_of_ble_eq_true rfl) rfl ?_
  
  refine r_aload_n 1 dX7_beginHere_0 rfl rfl rfl ?_
  refine r_getf 4 dX7_beginHere_1 rfl f_X7_7.r (by repeat (first | assumption | refine gs_eq ?_ | refine gs_ne (by omega) ?_ | exact is_of (by assumption) | refine gs_is ?_)) rfl ?_
  refine r_bipush (v := 53) 6 dX7_beginHere_4 rfl (by decide) ?_
  refine r_iconst (v := 0) 7 dX7_beginHere_6 rfl (by decide) ?_
  refine r_iast 8 dX7_beginHere_7 rfl (53) (by repeat (first | assumption | refine gs_eq ?_ | refine gs_ne (by omega) ?_ | exact is_of (by assumption) | refine gs_is ?_)) rfl (by decide) (by decide) ?_
  refine r_aload_n 9 dX7_beginHere_8 rfl rfl rfl ?_
  refine r_getf 12 dX7_beginHere_9 rfl f_X7_7.r (by repeat (first | assumption | refine gs_eq ?_ | refine gs_ne (by omega) ?_ | exact is_of (by assumption) | refine gs_is ?_)) rfl ?_
  refine r_bipush (v := 54) 14 dX7_beginHere_12 rfl (by decide) ?_
  refine r_bipush (v := (-6)) 16 dX7_beginHere_14 rfl (by decide) ?_
  refine r_iast 17 dX7_beginHere_16 rfl (54) (by repeat (first | assumption | refine gs_eq ?_ | refine gs_ne (by omega) ?_ | exact is_of (by assumption) | refine gs_is ?_)) rfl (by decide) (by decide) ?_
  refine r_aload_n 18 dX7_beginHere_17 rfl rfl rfl ?_
  refine r_getf 21 dX7_beginHere_18 rfl f_X7_7.r (by repeat (first | assumption | refine gs_eq ?_ | refine gs_ne (by omega) ?_ | exact is_of (by assumption) | refine gs_is ?_)) rfl ?_
  refine r_bipush (v := 55) 23 dX7_beginHere_21 rfl (by decide) ?_
  refine r_iconst (v := 0) 24 dX7_beginHere_23 rfl (by decide) ?_
  refine r_iast 25 dX7_beginHere_24 rfl (55) (by repeat (first | assumption | refine gs_eq ?_ | refine gs_ne (by omega) ?_ | exact is_of (by assumption) | refine gs_is ?_)) rfl (by decide) (by decide) ?_
  refine r_aload_n 26 dX7_beginHere_25 rfl rfl rfl ?_
  refine r_getf 29 dX7_beginHere_26 rfl f_X7_7.r (by repeat (first | assumption | refine gs_eq ?_ | refine gs_ne (by omega) ?_ | exact is_of (by assumption) | refine gs_is ?_)) rfl ?_
  refine r_bipush (v := 56) 31 dX7_beginHere_29 rfl (by decide) ?_
  refine r_iconst (v := 0) 32 dX7_beginHere_31 rfl (by decide) ?_
  refine r_iast 33 dX7_beginHere_32 rfl (56) (by repeat (first | assumption | refine gs_eq ?_ | refine gs_ne (by omega) ?_ | exact is_of (by assumption) | refine gs_is ?_)) rfl (by decide) (by decide) ?_
  refine r_aload_n 34 dX7_beginHere_33 rfl rfl rfl ?_
  refine r_getf 37 dX7_beginHere_34 rfl f_X7_7.r (by repeat (first | assumption | refine gs_eq ?_ | refine gs_ne (by omega) ?_ | exact is_of (by assumption) | refine gs_is ?_)) rfl ?_
  refine r_bipush (v := 57) 39 dX7_beginHere_37 rfl (by decide) ?_
  refine r_iconst (v := 0) 40 dX7_beginHere_39 rfl (by decide) ?_
  refine r_iast 41 dX7_beginHere_40 rfl (57) (by repeat (first | assumption | refine gs_eq ?_ | refine gs_ne (by omega) ?_ | exact is_of (by assumption) | refine gs_is ?_)) rfl (by decide) (by decide) ?_
  refine r_aload_n 42 dX7_beginHere_41 rfl rfl rfl ?_
  have hA5 := ((((hA.s53 (x := 0)).s54 (x := -6)).s55 (x := 0)).s56 (x := 0)).s57 (x := 0)
  have hA6 := hA5.ll (lo2 := fun _ => 0) (by rw [pk_un (by decide), pk_us]) (by rw [pk_us])
  refine r_callV0 45 dX7_beginHere_42 rfl (tX7_forgetPositions (by repeat (first | assumption | refine gs_eq ?_ | refine gs_ne (by omega) ?_ | exact is_of (by assumption) | refine gs_is ?_)) (by repeat (first | assumption | refine gs_eq ?_ | refine gs_ne (by omega) ?_ | exact is_of (by assumption) | refine gs_is ?_)) hA6) l_X7_131 mX7_forgetPositions rfl (by repeat (first | assumption | refine gs_eq ?_ | refine gs_ne (by omega) ?_ | exact is_of (by assumption) | refine gs_is ?_)) rfl (by decide) (Nat.le_of_ble_eq_true rfl) (by decide) (qN fun w1 g => ?_)
  obtain ⟨g1, y1, gz1, gA1⟩ := g
  have go1 := (g1.2 43 (by decide)).trans ((by repeat (first | assumption | refine gs_eq ?_ | refine gs_ne (by omega) ?_ | exact is_of (by assumption) | refine gs_is ?_)) : _ = some (oM pm ty rm sp wr))
  refine r_aload_n 46 dX7_beginHere_45 rfl rfl rfl ?_
  refine r_callV0 49 dX7_beginHere_46 rfl (tX7_writePosition go1 gz1 gA1 (by decide)) l_X7_134 mX7_writePosition rfl (by repeat (first | assumption | refine gs_eq ?_ | refine gs_ne (by omega) ?_ | exact is_of (by assumption) | refine gs_is ?_)) rfl (by decide) (Nat.le_of_ble_eq_true rfl) (by decide) (qN fun w2 k => ?_)
  obtain ⟨k1, y2, kz2, kA2⟩ := k
  have go2 := (k1.2 43 (by decide)).trans go1
  have hF44 : Fr w w2 (fun q => q = 44) := Fr.tr (Fr.tr (Fr.tr (Fr.tr (Fr.tr (Fr.tr (Fr.tr Fr.rf (Fr.st rfl)) (Fr.st rfl)) (Fr.st rfl)) (Fr.st rfl)) (Fr.st rfl)) g1) k1
  have hWw := hW.s44 hF44
  refine r_aload_n 50 dX7_beginHere_49 rfl rfl rfl ?_
  refine r_callV0 53 dX7_beginHere_50 rfl (tX7_judge go2 kz2 kA2 hWw hf hmv (Or.inl rfl) (Nat.le_refl 1) (Nat.le_of_ble_eq_true rfl) (fun p hp => by rw [List.nil_append, List.mem_singleton] at hp; rw [hp]; exact ⟨hf, hmv, Or.inl rfl⟩)) l_X7_137 mX7_judge rfl (by repeat (first | assumption | refine gs_eq ?_ | refine gs_ne (by omega) ?_ | exact is_of (by assumption) | refine gs_is ?_)) rfl (by decide) (Nat.le_of_ble_eq_true rfl) (by decide) (qN fun w3 j => ?_)
  obtain ⟨j1, y3, V3, jz3, jA3, jW3⟩ := j
  refine r_vret dX7_beginHere_53 rfl (by decide) (by decide) ?_
  exact ⟨rfl, hF44.z44.tr j1, y3, V3, jz3, jA3, jW3⟩

set_option maxRecDepth 100000 in
theorem tX7_start {Γ : CT} {w : PW} {pm ty rm sp wr : Int32} {z : Nat → Int32} {f : Nat → Int32} {mv oc cs : Int32} {cl : Nat → Int32} {mk jp : Int32} {lo : Nat → Int32} {qt : Int32} {P : List P3} {W : MW} {e : Bool} {F N : Nat → Int32} (ho : w[43]? = some (oM pm ty rm sp wr)) (hz : w[44]? = some (aI 431 z)) (hA : zA z f mv oc cs cl mk jp lo qt P) (hW : isW w W) (hFN : bgFN e F N) : Cl Γ yX7_start XX7_start 8 0 0 [.ref 43, .int (bI e)] w (rN (toZ w F 0 (judO F 0 [t3O F 0 (-6)] 0) cs (fun _ => cs) 0 (-6) (fun _ => 0) 0 [(F, 0, -6)])) := by
  obtain ⟨h0, a48, a49, a50, a51, a52, a53, a54, a55, a56, a57, a58, hp⟩ := id hA
  have loop : ∀ (m i : Nat) (u : PW) (y : Nat → Int32) (x3 : Option Value), i + m = 48 → (Fr w u (fun q => q = 44)) → (u[44]? = some (aI 431 y)) → (∀ s, s < i → y s = F s) → (∀ j, 48 ≤ j → y j = z j) → (nl x3 = true) → Rn Γ XX7_start (rmO 8 0 0) none (FinM (rN (toZ w F 0 (judO F 0 [t3O F 0 (-6)] 0) cs (fun _ => cs) 0 (-6) (fun _ => 0) 0 [(F, 0, -6)])) 0 0) 0 0 u 2 [some (.ref 43), some (.int (bI e)), some (.int (nI i)), x3] [] := by
    intro m
    induction m with
    | zero =>
      intro i u y x3 hi hF hy hl hk e3
      have oU := (hF.2 43 (by decide)).trans ho
      have h48 : i = 48 := by omega
      subst h48
      have hA1 : zA y F mv oc cs cl mk jp lo qt P := ⟨hl, (hk _ (by decide)).trans a48, (hk _ (by decide)).trans a49, (hk _ (by decide)).trans a50, (hk _ (by decide)).trans a51, (hk _ (by decide)).trans a52, (hk _ (by decide)).trans a53, (hk _ (by decide)).trans a54, (hk _ (by decide)).trans a55, (hk _ (by decide)).trans a56, (hk _ (by decide)).trans a57, (hk _ (by decide)).trans a58, fun i p hi k hk6 => (hk _ (by omega)).trans (hp i p hi k hk6)⟩
      refine r_iload_n 3 dX7_start_2 rfl rfl ?_
      refine r_bipush (v := nI 48) 5 dX7_start_3 rfl (by decide) ?_
      refine r_icmp_ge 67 8 dX7_start_5 (by decide) rfl (fun q5 => ?_) (fun q5 => absurd q5 (fun z => z (nI_le (by omega) (by omega))))
      refine r_aload_n 68 dX7_start_67 rfl rfl rfl ?_
      refine r_getf 71 dX7_start_68 rfl f_X7_7.r (by repeat (first | assumption | refine gs_eq ?_ | refine gs_ne (by omega) ?_ | exact is_of (by assumption) | refine gs_is ?_)) rfl ?_
      refine r_bipush (v := 48) 73 dX7_start_71 rfl (by decide) ?_
      refine r_iconst (v := 0) 74 dX7_start_73 rfl (by decide) ?_
      refine r_iast 75 dX7_start_74 rfl (48) (by repeat (first | assumption | refine gs_eq ?_ | refine gs_ne (by omega) ?_ | exact is_of (by assumption) | refine gs_is ?_)) rfl (by decide) (by decide) ?_
      refine r_aload_n 76 dX7_start_75 rfl rfl rfl ?_
      refine r_getf 79 dX7_start_76 rfl f_X7_7.r (by repeat (first | assumption | refine gs_eq ?_ | refine gs_ne (by omega) ?_ | exact is_of (by assumption) | refine gs_is ?_)) rfl ?_
      refine r_bipush (v := 51) 81 dX7_start_79 rfl (by decide) ?_
      refine r_aload_n 82 dX7_start_81 rfl rfl rfl ?_
      refine r_getf 85 dX7_start_82 rfl f_X7_7.r (by repeat (first | assumption | refine gs_eq ?_ | refine gs_ne (by omega) ?_ | exact is_of (by assumption) | refine gs_is ?_)) rfl ?_
      refine r_bipush (v := 50) 87 dX7_start_85 rfl (by decide) ?_
      refine r_iald 88 dX7_start_87 rfl (50) (by repeat (first | assumption | refine gs_eq ?_ | refine gs_ne (by omega) ?_ | exact is_of (by assumption) | refine gs_is ?_)) rfl (by decide) (by decide) ?_
      rw [(hA1.s48 (x := 0)).2.2.2.1]
      refine r_iast 89 dX7_start_88 rfl (51) (by repeat (first | assumption | refine gs_eq ?_ | refine gs_ne (by omega) ?_ | exact is_of (by assumption) | refine gs_is ?_)) rfl (by decide) (by decide) ?_
      refine r_aload_n 90 dX7_start_89 rfl rfl rfl ?_
      refine r_getf 93 dX7_start_90 rfl f_X7_7.r (by repeat (first | assumption | refine gs_eq ?_ | refine gs_ne (by omega) ?_ | exact is_of (by assumption) | refine gs_is ?_)) rfl ?_
      refine r_bipush (v := 52) 95 dX7_start_93 rfl (by decide) ?_
      refine r_aload_n 96 dX7_start_95 rfl rfl rfl ?_
      refine r_getf 99 dX7_start_96 rfl f_X7_7.r (by repeat (first | assumption | refine gs_eq ?_ | refine gs_ne (by omega) ?_ | exact is_of (by assumption) | refine gs_is ?_)) rfl ?_
      refine r_bipush (v := 50) 101 dX7_start_99 rfl (by decide) ?_
      refine r_iald 102 dX7_start_101 rfl (50) (by repeat (first | assumption | refine gs_eq ?_ | refine gs_ne (by omega) ?_ | exact is_of (by assumption) | refine gs_is ?_)) rfl (by decide) (by decide) ?_
      rw [((hA1.s48 (x := 0)).s51 (x := cs)).2.2.2.1]
      refine r_iast 103 dX7_start_102 rfl (52) (by repeat (first | assumption | refine gs_eq ?_ | refine gs_ne (by omega) ?_ | exact is_of (by assumption) | refine gs_is ?_)) rfl (by decide) (by decide) ?_
      refine r_aload_n 104 dX7_start_103 rfl rfl rfl ?_
      have hA4 := (((hA1.s48 (x := 0)).s51 (x := cs)).s52 (x := cs)).lc (cl2 := fun _ => cs) (by rw [pk_un (by decide), pk_us]) (by rw [pk_us])
      have hFz : Fr w _ (fun q => q = 44) := Fr.tr (Fr.tr (Fr.tr hF (Fr.st (h := 44) (c := aI 431 (upd y 48 0)) rfl)) (Fr.st (h := 44) (c := aI 431 (upd (upd y 48 0) 51 cs)) rfl)) (Fr.st (h := 44) (c := aI 431 (upd (upd (upd y 48 0) 51 cs) 52 cs)) rfl)
      refine r_callV0 107 dX7_start_104 rfl (tX7_beginHere (by repeat (first | assumption | refine gs_eq ?_ | refine gs_ne (by omega) ?_ | exact is_of (by assumption) | refine gs_is ?_)) (by repeat (first | assumption | refine gs_eq ?_ | refine gs_ne (by omega) ?_ | exact is_of (by assumption) | refine gs_is ?_)) hA4 (hW.s44 hFz) (bg_ok hFN) (Or.inl rfl)) l_X7_140 mX7_beginHere rfl (by repeat (first | assumption | refine gs_eq ?_ | refine gs_ne (by omega) ?_ | exact is_of (by assumption) | refine gs_is ?_)) rfl (by decide) (Nat.le_of_ble_eq_true rfl) (by decide) (qN fun w3 j => ?_)
      obtain ⟨j1, y3, V3, jz3, jA3, jW3⟩ := j
      refine r_vret dX7_start_107 rfl (by decide) (by decide) ?_
      exact ⟨rfl, hFz.z44.tr j1, y3, V3, jz3, jA3, jW3⟩
    | succ m ih =>
      intro i u y x3 hi hF hy hl hk e3
      have oU := (hF.2 43 (by decide)).trans ho
      refine r_iload_n 3 dX7_start_2 rfl rfl ?_
      refine r_bipush (v := nI 48) 5 dX7_start_3 rfl (by decide) ?_
      refine r_icmp_ge 67 8 dX7_start_5 (by decide) rfl (fun q5 => absurd q5 (nI_ge (by omega) (by omega))) (fun q5 => ?_)
      refine r_iload_n 9 dX7_start_8 rfl rfl ?_
      refine r_callS0 12 dX7_start_9 rfl (tX7_rowOf) l_X7_69 mX7_rowOf rfl (by decide) (Nat.le_of_ble_eq_true rfl) (by decide) (qI ?_)
      rw [show (6 : Int32) = nI 6 from rfl, pk_div (by omega) (by decide) (by decide)]
      refine r_istore_n (ls1 := [_, _, _, _]) 13 dX7_start_12 rfl (by decide) rfl rfl ?_
      refine r_aload_n 14 dX7_start_13 rfl rfl rfl ?_
      refine r_getf 17 dX7_start_14 rfl f_X7_7.r (by repeat (first | assumption | refine gs_eq ?_ | refine gs_ne (by omega) ?_ | exact is_of (by assumption) | refine gs_is ?_)) rfl ?_
      refine r_iconst (v := 0) 18 dX7_start_17 rfl (by decide) ?_
      refine r_iload_n 19 dX7_start_18 rfl rfl ?_
      refine r_iadd 20 dX7_start_19 rfl ?_
      refine r_iload_n 21 dX7_start_20 rfl rfl ?_
      refine r_if_eq 29 24 dX7_start_21 (by decide) rfl (fun q21 => ?_) (fun q21 => ?_)
      · refine r_iload_n 30 dX7_start_29 rfl rfl ?_
        refine r_iconst (v := nI 1) 31 dX7_start_30 rfl (by decide) ?_
        refine r_icmp_eq 39 34 dX7_start_31 (by decide) rfl (fun q31 => ?_) (fun q31 => ?_)
        · refine r_iconst (v := 0) 40 dX7_start_39 rfl (by decide) ?_
          refine r_goto 60 dX7_start_40 (by decide) ?_
          refine r_iast 61 dX7_start_60 rfl (i) (by repeat (first | assumption | refine gs_eq ?_ | refine gs_ne (by omega) ?_ | exact is_of (by assumption) | refine gs_is ?_)) (Int32.zero_add _) (by omega) (by decide) ?_
          refine r_iinc (ls1 := [_, _, _, _]) 64 dX7_start_61 rfl (by decide) rfl rfl (nI_1 i) rfl ?_
          refine r_goto 2 dX7_start_64 (by decide) ?_
          have go : ∀ v : Int32, F i = v → Fr w (u.set 44 (aI 431 (upd y i v))) (fun q => q = 44) ∧ (u.set 44 (aI 431 (upd y i v)))[44]? = some (aI 431 (upd y i v)) ∧ (∀ s, s < i + 1 → upd y i v s = F s) ∧ (∀ j, 48 ≤ j → upd y i v j = z j) := fun v hv => ⟨Fr.tr hF (Fr.st rfl), gs_eq (is_of hy), fun s hs => by
            rcases Nat.lt_or_ge s i with h | h
            · exact (pk_un (by omega)).trans (hl s h)
            · rw [show s = i by omega, pk_us, hv], fun j hj => (pk_un (by omega)).trans (hk j hj)⟩
          first
          | (have hv : F i = -6 := by rw [(hFN.1 (ne_f q21)).1]
             exact ih (i + 1) _ _ _ (by omega) (go _ hv).1 (go _ hv).2.1 (go _ hv).2.2.1 (go _ hv).2.2.2 rfl)
          | (have hv : F i = 0 := by
               rw [(hFN.2 (bI_0.mp q21)).1, stF_at (by omega)]
               unfold stV
               rw [if_pos]
               first | exact Or.inl ((nI_eq (by omega) (by decide)).mp q31) | exact Or.inr ((nI_eq (by omega) (by decide)).mp q36)
             exact ih (i + 1) _ _ _ (by omega) (go _ hv).1 (go _ hv).2.1 (go _ hv).2.2.1 (go _ hv).2.2.2 rfl)
          | (have hv : F i = 2 := by
               rw [(hFN.2 (bI_0.mp q21)).1, stF_at (by omega)]
               unfold stV
               rw [if_neg (fun z => z.elim (fun a => q31 (by rw [a])) (fun a => q36 (by rw [a]))), if_pos]
               first | exact Or.inl ((nI_eq (by omega) (by decide)).mp q45) | exact Or.inr ((nI_eq (by omega) (by decide)).mp q51)
             exact ih (i + 1) _ _ _ (by omega) (go _ hv).1 (go _ hv).2.1 (go _ hv).2.2.1 (go _ hv).2.2.2 rfl)
          | (have hv : F i = -6 := by
               rw [(hFN.2 (bI_0.mp q21)).1, stF_at (by omega)]
               unfold stV
               rw [if_neg (fun z => z.elim (fun a => q31 (by rw [a])) (fun a => q36 (by rw [a]))), if_neg (fun z => z.elim (fun a => q45 (by rw [a])) (fun a => q51 (by rw [a])))]
             exact ih (i + 1) _ _ _ (by omega) (go _ hv).1 (go _ hv).2.1 (go _ hv).2.2.1 (go _ hv).2.2.2 rfl)
        · refine r_iload_n 35 dX7_start_34 rfl rfl ?_
          refine r_iconst (v := nI 2) 36 dX7_start_35 rfl (by decide) ?_
          refine r_icmp_ne 43 39 dX7_start_36 (by decide) rfl (fun q36 => ?_) (fun q36 => ?_)
          · refine r_iload_n 44 dX7_start_43 rfl rfl ?_
            refine r_iconst (v := nI 5) 45 dX7_start_44 rfl (by decide) ?_
            refine r_icmp_eq 54 48 dX7_start_45 (by decide) rfl (fun q45 => ?_) (fun q45 => ?_)
            · refine r_iconst (v := 2) 55 dX7_start_54 rfl (by decide) ?_
              refine r_goto 60 dX7_start_55 (by decide) ?_
              refine r_iast 61 dX7_start_60 rfl (i) (by repeat (first | assumption | refine gs_eq ?_ | refine gs_ne (by omega) ?_ | exact is_of (by assumption) | refine gs_is ?_)) (Int32.zero_add _) (by omega) (by decide) ?_
              refine r_iinc (ls1 := [_, _, _, _]) 64 dX7_start_61 rfl (by decide) rfl rfl (nI_1 i) rfl ?_
              refine r_goto 2 dX7_start_64 (by decide) ?_
              have go : ∀ v : Int32, F i = v → Fr w (u.set 44 (aI 431 (upd y i v))) (fun q => q = 44) ∧ (u.set 44 (aI 431 (upd y i v)))[44]? = some (aI 431 (upd y i v)) ∧ (∀ s, s < i + 1 → upd y i v s = F s) ∧ (∀ j, 48 ≤ j → upd y i v j = z j) := fun v hv => ⟨Fr.tr hF (Fr.st rfl), gs_eq (is_of hy), fun s hs => by
                rcases Nat.lt_or_ge s i with h | h
                · exact (pk_un (by omega)).trans (hl s h)
                · rw [show s = i by omega, pk_us, hv], fun j hj => (pk_un (by omega)).trans (hk j hj)⟩
              first
              | (have hv : F i = -6 := by rw [(hFN.1 (ne_f q21)).1]
                 exact ih (i + 1) _ _ _ (by omega) (go _ hv).1 (go _ hv).2.1 (go _ hv).2.2.1 (go _ hv).2.2.2 rfl)
              | (have hv : F i = 0 := by
                   rw [(hFN.2 (bI_0.mp q21)).1, stF_at (by omega)]
                   unfold stV
                   rw [if_pos]
                   first | exact Or.inl ((nI_eq (by omega) (by decide)).mp q31) | exact Or.inr ((nI_eq (by omega) (by decide)).mp q36)
                 exact ih (i + 1) _ _ _ (by omega) (go _ hv).1 (go _ hv).2.1 (go _ hv).2.2.1 (go _ hv).2.2.2 rfl)
              | (have hv : F i = 2 := by
                   rw [(hFN.2 (bI_0.mp q21)).1, stF_at (by omega)]
                   unfold stV
                   rw [if_neg (fun z => z.elim (fun a => q31 (by rw [a])) (fun a => q36 (by rw [a]))), if_pos]
                   first | exact Or.inl ((nI_eq (by omega) (by decide)).mp q45) | exact Or.inr ((nI_eq (by omega) (by decide)).mp q51)
                 exact ih (i + 1) _ _ _ (by omega) (go _ hv).1 (go _ hv).2.1 (go _ hv).2.2.1 (go _ hv).2.2.2 rfl)
              | (have hv : F i = -6 := by
                   rw [(hFN.2 (bI_0.mp q21)).1, stF_at (by omega)]
                   unfold stV
                   rw [if_neg (fun z => z.elim (fun a => q31 (by rw [a])) (fun a => q36 (by rw [a]))), if_neg (fun z => z.elim (fun a => q45 (by rw [a])) (fun a => q51 (by rw [a])))]
                 exact ih (i + 1) _ _ _ (by omega) (go _ hv).1 (go _ hv).2.1 (go _ hv).2.2.1 (go _ hv).2.2.2 rfl)
            · refine r_iload_n 49 dX7_start_48 rfl rfl ?_
              refine r_bipush (v := nI 6) 51 dX7_start_49 rfl (by decide) ?_
              refine r_icmp_ne 58 54 dX7_start_51 (by decide) rfl (fun q51 => ?_) (fun q51 => ?_)
              · refine r_bipush (v := (-6)) 60 dX7_start_58 rfl (by decide) ?_
                refine r_iast 61 dX7_start_60 rfl (i) (by repeat (first | assumption | refine gs_eq ?_ | refine gs_ne (by omega) ?_ | exact is_of (by assumption) | refine gs_is ?_)) (Int32.zero_add _) (by omega) (by decide) ?_
                refine r_iinc (ls1 := [_, _, _, _]) 64 dX7_start_61 rfl (by decide) rfl rfl (nI_1 i) rfl ?_
                refine r_goto 2 dX7_start_64 (by decide) ?_
                have go : ∀ v : Int32, F i = v → Fr w (u.set 44 (aI 431 (upd y i v))) (fun q => q = 44) ∧ (u.set 44 (aI 431 (upd y i v)))[44]? = some (aI 431 (upd y i v)) ∧ (∀ s, s < i + 1 → upd y i v s = F s) ∧ (∀ j, 48 ≤ j → upd y i v j = z j) := fun v hv => ⟨Fr.tr hF (Fr.st rfl), gs_eq (is_of hy), fun s hs => by
                  rcases Nat.lt_or_ge s i with h | h
                  · exact (pk_un (by omega)).trans (hl s h)
                  · rw [show s = i by omega, pk_us, hv], fun j hj => (pk_un (by omega)).trans (hk j hj)⟩
                first
                | (have hv : F i = -6 := by rw [(hFN.1 (ne_f q21)).1]
                   exact ih (i + 1) _ _ _ (by omega) (go _ hv).1 (go _ hv).2.1 (go _ hv).2.2.1 (go _ hv).2.2.2 rfl)
                | (have hv : F i = 0 := by
                     rw [(hFN.2 (bI_0.mp q21)).1, stF_at (by omega)]
                     unfold stV
                     rw [if_pos]
                     first | exact Or.inl ((nI_eq (by omega) (by decide)).mp q31) | exact Or.inr ((nI_eq (by omega) (by decide)).mp q36)
                   exact ih (i + 1) _ _ _ (by omega) (go _ hv).1 (go _ hv).2.1 (go _ hv).2.2.1 (go _ hv).2.2.2 rfl)
                | (have hv : F i = 2 := by
                     rw [(hFN.2 (bI_0.mp q21)).1, stF_at (by omega)]
                     unfold stV
                     rw [if_neg (fun z => z.elim (fun a => q31 (by rw [a])) (fun a => q36 (by rw [a]))), if_pos]
                     first | exact Or.inl ((nI_eq (by omega) (by decide)).mp q45) | exact Or.inr ((nI_eq (by omega) (by decide)).mp q51)
                   exact ih (i + 1) _ _ _ (by omega) (go _ hv).1 (go _ hv).2.1 (go _ hv).2.2.1 (go _ hv).2.2.2 rfl)
                | (have hv : F i = -6 := by
                     rw [(hFN.2 (bI_0.mp q21)).1, stF_at (by omega)]
                     unfold stV
                     rw [if_neg (fun z => z.elim (fun a => q31 (by rw [a])) (fun a => q36 (by rw [a]))), if_neg (fun z => z.elim (fun a => q45 (by rw [a])) (fun a => q51 (by rw [a])))]
                   exact ih (i + 1) _ _ _ (by omega) (go _ hv).1 (go _ hv).2.1 (go _ hv).2.2.1 (go _ hv).2.2.2 rfl)
              · refine r_iconst (v := 2) 55 dX7_start_54 rfl (by decide) ?_
                refine r_goto 60 dX7_start_55 (by decide) ?_
                refine r_iast 61 dX7_start_60 rfl (i) (by repeat (first | assumption | refine gs_eq ?_ | refine gs_ne (by omega) ?_ | exact is_of (by assumption) | refine gs_is ?_)) (Int32.zero_add _) (by omega) (by decide) ?_
                refine r_iinc (ls1 := [_, _, _, _]) 64 dX7_start_61 rfl (by decide) rfl rfl (nI_1 i) rfl ?_
                refine r_goto 2 dX7_start_64 (by decide) ?_
                have go : ∀ v : Int32, F i = v → Fr w (u.set 44 (aI 431 (upd y i v))) (fun q => q = 44) ∧ (u.set 44 (aI 431 (upd y i v)))[44]? = some (aI 431 (upd y i v)) ∧ (∀ s, s < i + 1 → upd y i v s = F s) ∧ (∀ j, 48 ≤ j → upd y i v j = z j) := fun v hv => ⟨Fr.tr hF (Fr.st rfl), gs_eq (is_of hy), fun s hs => by
                  rcases Nat.lt_or_ge s i with h | h
                  · exact (pk_un (by omega)).trans (hl s h)
                  · rw [show s = i by omega, pk_us, hv], fun j hj => (pk_un (by omega)).trans (hk j hj)⟩
                first
                | (have hv : F i = -6 := by rw [(hFN.1 (ne_f q21)).1]
                   exact ih (i + 1) _ _ _ (by omega) (go _ hv).1 (go _ hv).2.1 (go _ hv).2.2.1 (go _ hv).2.2.2 rfl)
                | (have hv : F i = 0 := by
                     rw [(hFN.2 (bI_0.mp q21)).1, stF_at (by omega)]
                     unfold stV
                     rw [if_pos]
                     first | exact Or.inl ((nI_eq (by omega) (by decide)).mp q31) | exact Or.inr ((nI_eq (by omega) (by decide)).mp q36)
                   exact ih (i + 1) _ _ _ (by omega) (go _ hv).1 (go _ hv).2.1 (go _ hv).2.2.1 (go _ hv).2.2.2 rfl)
                | (have hv : F i = 2 := by
                     rw [(hFN.2 (bI_0.mp q21)).1, stF_at (by omega)]
                     unfold stV
                     rw [if_neg (fun z => z.elim (fun a => q31 (by rw [a])) (fun a => q36 (by rw [a]))), if_pos]
                     first | exact Or.inl ((nI_eq (by omega) (by decide)).mp q45) | exact Or.inr ((nI_eq (by omega) (by decide)).mp q51)
                   exact ih (i + 1) _ _ _ (by omega) (go _ hv).1 (go _ hv).2.1 (go _ hv).2.2.1 (go _ hv).2.2.2 rfl)
                | (have hv : F i = -6 := by
                     rw [(hFN.2 (bI_0.mp q21)).1, stF_at (by omega)]
                     unfold stV
                     rw [if_neg (fun z => z.elim (fun a => q31 (by rw [a])) (fun a => q36 (by rw [a]))), if_neg (fun z => z.elim (fun a => q45 (by rw [a])) (fun a => q51 (by rw [a])))]
                   exact ih (i + 1) _ _ _ (by omega) (go _ hv).1 (go _ hv).2.1 (go _ hv).2.2.1 (go _ hv).2.2.2 rfl)
          · refine r_iconst (v := 0) 40 dX7_start_39 rfl (by decide) ?_
            refine r_goto 60 dX7_start_40 (by decide) ?_
            refine r_iast 61 dX7_start_60 rfl (i) (by repeat (first | assumption | refine gs_eq ?_ | refine gs_ne (by omega) ?_ | exact is_of (by assumption) | refine gs_is ?_)) (Int32.zero_add _) (by omega) (by decide) ?_
            refine r_iinc (ls1 := [_, _, _, _]) 64 dX7_start_61 rfl (by decide) rfl rfl (nI_1 i) rfl ?_
            refine r_goto 2 dX7_start_64 (by decide) ?_
            have go : ∀ v : Int32, F i = v → Fr w (u.set 44 (aI 431 (upd y i v))) (fun q => q = 44) ∧ (u.set 44 (aI 431 (upd y i v)))[44]? = some (aI 431 (upd y i v)) ∧ (∀ s, s < i + 1 → upd y i v s = F s) ∧ (∀ j, 48 ≤ j → upd y i v j = z j) := fun v hv => ⟨Fr.tr hF (Fr.st rfl), gs_eq (is_of hy), fun s hs => by
              rcases Nat.lt_or_ge s i with h | h
              · exact (pk_un (by omega)).trans (hl s h)
              · rw [show s = i by omega, pk_us, hv], fun j hj => (pk_un (by omega)).trans (hk j hj)⟩
            first
            | (have hv : F i = -6 := by rw [(hFN.1 (ne_f q21)).1]
               exact ih (i + 1) _ _ _ (by omega) (go _ hv).1 (go _ hv).2.1 (go _ hv).2.2.1 (go _ hv).2.2.2 rfl)
            | (have hv : F i = 0 := by
                 rw [(hFN.2 (bI_0.mp q21)).1, stF_at (by omega)]
                 unfold stV
                 rw [if_pos]
                 first | exact Or.inl ((nI_eq (by omega) (by decide)).mp q31) | exact Or.inr ((nI_eq (by omega) (by decide)).mp q36)
               exact ih (i + 1) _ _ _ (by omega) (go _ hv).1 (go _ hv).2.1 (go _ hv).2.2.1 (go _ hv).2.2.2 rfl)
            | (have hv : F i = 2 := by
                 rw [(hFN.2 (bI_0.mp q21)).1, stF_at (by omega)]
                 unfold stV
                 rw [if_neg (fun z => z.elim (fun a => q31 (by rw [a])) (fun a => q36 (by rw [a]))), if_pos]
                 first | exact Or.inl ((nI_eq (by omega) (by decide)).mp q45) | exact Or.inr ((nI_eq (by omega) (by decide)).mp q51)
               exact ih (i + 1) _ _ _ (by omega) (go _ hv).1 (go _ hv).2.1 (go _ hv).2.2.1 (go _ hv).2.2.2 rfl)
            | (have hv : F i = -6 := by
                 rw [(hFN.2 (bI_0.mp q21)).1, stF_at (by omega)]
                 unfold stV
                 rw [if_neg (fun z => z.elim (fun a => q31 (by rw [a])) (fun a => q36 (by rw [a]))), if_neg (fun z => z.elim (fun a => q45 (by rw [a])) (fun a => q51 (by rw [a])))]
               exact ih (i + 1) _ _ _ (by omega) (go _ hv).1 (go _ hv).2.1 (go _ hv).2.2.1 (go _ hv).2.2.2 rfl)
      · refine r_bipush (v := (-6)) 26 dX7_start_24 rfl (by decide) ?_
        refine r_goto 60 dX7_start_26 (by decide) ?_
        refine r_iast 61 dX7_start_60 rfl (i) (by repeat (first | assumption | refine gs_eq ?_ | refine gs_ne (by omega) ?_ | exact is_of (by assumption) | refine gs_is ?_)) (Int32.zero_add _) (by omega) (by decide) ?_
        refine r_iinc (ls1 := [_, _, _, _]) 64 dX7_start_61 rfl (by decide) rfl rfl (nI_1 i) rfl ?_
        refine r_goto 2 dX7_start_64 (by decide) ?_
        have go : ∀ v : Int32, F i = v → Fr w (u.set 44 (aI 431 (upd y i v))) (fun q => q = 44) ∧ (u.set 44 (aI 431 (upd y i v)))[44]? = some (aI 431 (upd y i v)) ∧ (∀ s, s < i + 1 → upd y i v s = F s) ∧ (∀ j, 48 ≤ j → upd y i v j = z j) := fun v hv => ⟨Fr.tr hF (Fr.st rfl), gs_eq (is_of hy), fun s hs => by
          rcases Nat.lt_or_ge s i with h | h
          · exact (pk_un (by omega)).trans (hl s h)
          · rw [show s = i by omega, pk_us, hv], fun j hj => (pk_un (by omega)).trans (hk j hj)⟩
        first
        | (have hv : F i = -6 := by rw [(hFN.1 (ne_f q21)).1]
           exact ih (i + 1) _ _ _ (by omega) (go _ hv).1 (go _ hv).2.1 (go _ hv).2.2.1 (go _ hv).2.2.2 rfl)
        | (have hv : F i = 0 := by
             rw [(hFN.2 (bI_0.mp q21)).1, stF_at (by omega)]
             unfold stV
             rw [if_pos]
             first | exact Or.inl ((nI_eq (by omega) (by decide)).mp q31) | exact Or.inr ((nI_eq (by omega) (by decide)).mp q36)
           exact ih (i + 1) _ _ _ (by omega) (go _ hv).1 (go _ hv).2.1 (go _ hv).2.2.1 (go _ hv).2.2.2 rfl)
        | (have hv : F i = 2 := by
             rw [(hFN.2 (bI_0.mp q21)).1, stF_at (by omega)]
             unfold stV
             rw [if_neg (fun z => z.elim (fun a => q31 (by rw [a])) (fun a => q36 (by rw [a]))), if_pos]
             first | exact Or.inl ((nI_eq (by omega) (by decide)).mp q45) | exact Or.inr ((nI_eq (by omega) (by decide)).mp q51)
           exact ih (i + 1) _ _ _ (by omega) (go _ hv).1 (go _ hv).2.1 (go _ hv).2.2.1 (go _ hv).2.2.2 rfl)
        | (have hv : F i = -6 := by
             rw [(hFN.2 (bI_0.mp q21)).1, stF_at (by omega)]
             unfold stV
             rw [if_neg (fun z => z.elim (fun a => q31 (by rw [a])) (fun a => q36 (by rw [a]))), if_neg (fun z => z.elim (fun a => q45 (by rw [a])) (fun a => q51 (by rw [a])))]
           exact ih (i + 1) _ _ _ (by omega) (go _ hv).1 (go _ hv).2.1 (go _ hv).2.2.1 (go _ hv).2.2.2 rfl)
  refine Cl.of (ls := [some (.ref 43), some (.int (bI e)), none, none]) rfl (by decide +kernel) (fun h => by cases h) (Nat.le_of_ble_eq_true rfl) rfl ?_
  refine r_iconst (v := nI 0) 1 dX7_start_0 rfl (by decide) ?_
  refine r_istore_n (ls1 := [_, _, _, _]) 2 dX7_start_1 rfl (by decide) rfl rfl ?_
  exact loop 48 0 w z none (by omega) Fr.rf hz (fun s hs => by omega) (fun _ _ => rfl) rfl

set_option maxRecDepth 100000 in
theorem tX7_pieces {Γ : CT} {w : PW} {pm ty rm sp wr : Int32} {z f : Nat → Int32} {sd kd : Nat} (ho : w[43]? = some (oM pm ty rm sp wr)) (hz : w[44]? = some (aI 431 z)) (hz0 : ∀ s, s < 48 → z s = f s) : Cl Γ yX7_pieces XX7_pieces 0 0 0 [.ref 43, .int (nI sd), .int (nI kd)] w (rI (nI (pcK f (2 * sd + kd) 48)) w) := by
  have loop : ∀ (m i : Nat) , i + m = 48 → Rn Γ XX7_pieces (rmO 0 0 0) none (FinM (rI (nI (pcK f (2 * sd + kd) 48)) w) 0 0) 0 0 w 5 [some (.ref 43), some (.int (nI sd)), some (.int (nI kd)), some (.int (nI (pcK f (2 * sd + kd) i))), some (.int (nI i))] [] := by
    intro m
    induction m with
    | zero =>
      intro i  hi 
      have h48 : i = 48 := by omega
      subst h48
      refine r_iload 7 dX7_pieces_5 rfl rfl ?_
      refine r_bipush (v := nI 48) 9 dX7_pieces_7 rfl (by decide) ?_
      refine r_icmp_ge 43 12 dX7_pieces_9 (by decide) rfl (fun q9 => ?_) (fun q9 => absurd q9 (fun z => z (nI_le (by omega) (by omega))))
      refine r_iload_n 44 dX7_pieces_43 rfl rfl ?_
      refine r_iret dX7_pieces_44 rfl (by decide) (by decide) ?_
      exact ⟨rfl, rfl⟩
    | succ m ih =>
      intro i  hi 
      refine r_iload 7 dX7_pieces_5 rfl rfl ?_
      refine r_bipush (v := nI 48) 9 dX7_pieces_7 rfl (by decide) ?_
      refine r_icmp_ge 43 12 dX7_pieces_9 (by decide) rfl (fun q9 => absurd q9 (nI_ge (by omega) (by omega))) (fun q9 => ?_)
      refine r_iload_n 13 dX7_pieces_12 rfl rfl ?_
      refine r_aload_n 14 dX7_pieces_13 rfl rfl rfl ?_
      refine r_getf 17 dX7_pieces_14 rfl f_X7_7.r (by repeat (first | assumption | refine gs_eq ?_ | refine gs_ne (by omega) ?_ | exact is_of (by assumption) | refine gs_is ?_)) rfl ?_
      refine r_iconst (v := 0) 18 dX7_pieces_17 rfl (by decide) ?_
      refine r_iload 20 dX7_pieces_18 rfl rfl ?_
      refine r_iadd 21 dX7_pieces_20 rfl ?_
      refine r_iald 22 dX7_pieces_21 rfl (i) (by repeat (first | assumption | refine gs_eq ?_ | refine gs_ne (by omega) ?_ | exact is_of (by assumption) | refine gs_is ?_)) (Int32.zero_add _) (by omega) (by decide) ?_
      rw [hz0 i (by omega)]
      refine r_iconst (v := nI 2) 23 dX7_pieces_22 rfl (by decide) ?_
      refine r_iload_n 24 dX7_pieces_23 rfl rfl ?_
      refine r_imul 25 dX7_pieces_24 rfl ?_
      rw [pk_mul]
      refine r_iload_n 26 dX7_pieces_25 rfl rfl ?_
      refine r_iadd 27 dX7_pieces_26 rfl ?_
      rw [nI_add]
      refine r_icmp_ne 34 30 dX7_pieces_27 (by decide) rfl (fun q27 => ?_) (fun q27 => ?_)
      · refine r_iconst (v := 0) 35 dX7_pieces_34 rfl (by decide) ?_
        refine r_iadd 36 dX7_pieces_35 rfl ?_
        refine r_istore_n (ls1 := [_, _, _, _, _]) 37 dX7_pieces_36 rfl (by decide) rfl rfl ?_
        refine r_iinc (ls1 := [_, _, _, _, _]) 40 dX7_pieces_37 rfl (by decide) rfl rfl (nI_1 i) rfl ?_
        refine r_goto 5 dX7_pieces_40 (by decide) ?_
        first
        | (have e : pcK f (2 * sd + kd) (i + 1) = pcK f (2 * sd + kd) i + 1 := by rw [pcK_s, if_pos q27]
           rw [nI_1, ← e]
           exact ih (i + 1) (by omega))
        | (have e : pcK f (2 * sd + kd) (i + 1) = pcK f (2 * sd + kd) i := by rw [pcK_s, if_neg q27, Nat.add_zero]
           rw [Int32.add_zero, ← e]
           exact ih (i + 1) (by omega))
      · refine r_iconst (v := 1) 31 dX7_pieces_30 rfl (by decide) ?_
        refine r_goto 35 dX7_pieces_31 (by decide) ?_
        refine r_iadd 36 dX7_pieces_35 rfl ?_
        refine r_istore_n (ls1 := [_, _, _, _, _]) 37 dX7_pieces_36 rfl (by decide) rfl rfl ?_
        refine r_iinc (ls1 := [_, _, _, _, _]) 40 dX7_pieces_37 rfl (by decide) rfl rfl (nI_1 i) rfl ?_
        refine r_goto 5 dX7_pieces_40 (by decide) ?_
        first
        | (have e : pcK f (2 * sd + kd) (i + 1) = pcK f (2 * sd + kd) i + 1 := by rw [pcK_s, if_pos q27]
           rw [nI_1, ← e]
           exact ih (i + 1) (by omega))
        | (have e : pcK f (2 * sd + kd) (i + 1) = pcK f (2 * sd + kd) i := by rw [pcK_s, if_neg q27, Nat.add_zero]
           rw [Int32.add_zero, ← e]
           exact ih (i + 1) (by omega))
  refine Cl.of (ls := [some (.ref 43), some (.int (nI sd)), some (.int (nI kd)), none, none]) rfl (by decide +kernel) (fun h => by cases h) (Nat.le_of_ble_eq_true rfl) rfl ?_
  refine r_iconst (v := nI 0) 1 dX7_pieces_0 rfl (by decide) ?_
  refine r_istore_n (ls1 := [_, _, _, _, _]) 2 dX7_pieces_1 rfl (by decide) rfl rfl ?_
  refine r_iconst (v := nI 0) 3 dX7_pieces_2 rfl (by decide) ?_
  refine r_istore (ls1 := [_, _, _, _, _]) 5 dX7_pieces_3 rfl (by decide) rfl rfl ?_
  exact loop 48 0 (by omega)

set_option maxRecDepth 100000 in
theorem tX7_all {Γ : CT} {w : PW} {pm ty rm sp wr : Int32} {z f : Nat → Int32} {sd : Nat} (ho : w[43]? = some (oM pm ty rm sp wr)) (hz : w[44]? = some (aI 431 z)) (hz0 : ∀ s, s < 48 → z s = f s) : Cl Γ yX7_all XX7_all 1 0 0 [.ref 43, .int (nI sd)] w (rI (nI (pcK f (2 * sd) 48 + pcK f (2 * sd + 1) 48)) w) := by
  refine Cl.of (ls := [some (.ref 43), some (.int (nI sd))]) rfl (by decide +kernel) (fun h => by cases h) (Nat.le_of_ble_eq_true rfl) rfl ?_
  refine r_aload_n 1 dX7_all_0 rfl rfl rfl ?_
  refine r_iload_n 2 dX7_all_1 rfl rfl ?_
  refine r_iconst (v := nI 0) 3 dX7_all_2 rfl (by decide) ?_
  refine r_callV0 6 dX7_all_3 rfl (tX7_pieces (kd := 0) ho hz hz0) l_X7_143 mX7_pieces rfl (by repeat (first | assumption | refine gs_eq ?_ | refine gs_ne (by omega) ?_ | exact is_of (by assumption) | refine gs_is ?_)) rfl (by decide) (Nat.le_of_ble_eq_true rfl) (by decide) (qI ?_)
  refine r_aload_n 7 dX7_all_6 rfl rfl rfl ?_
  refine r_iload_n 8 dX7_all_7 rfl rfl ?_
  refine r_iconst (v := nI 1) 9 dX7_all_8 rfl (by decide) ?_
  refine r_callV0 12 dX7_all_9 rfl (tX7_pieces (kd := 1) ho hz hz0) l_X7_143 mX7_pieces rfl (by repeat (first | assumption | refine gs_eq ?_ | refine gs_ne (by omega) ?_ | exact is_of (by assumption) | refine gs_is ?_)) rfl (by decide) (Nat.le_of_ble_eq_true rfl) (by decide) (qI ?_)
  refine r_iadd 13 dX7_all_12 rfl ?_
  rw [nI_add]
  refine r_iret dX7_all_13 rfl (by decide) (by decide) ?_
  exact ⟨rfl, rfl⟩

