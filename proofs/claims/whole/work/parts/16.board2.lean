/-! ===== fill; the board emptied, filled, copied, made ===== -/
theorem fill_step {f : Nat → Int32} {i : Nat} {v : Int32} : upd (fun k => if k < i then v else f k) i v = fun k => if k < i + 1 then v else f k := by
  funext k
  unfold upd
  by_cases h : k = i
  · subst h; simp
  · by_cases h2 : k < i
    · simp [h, h2, show k < i + 1 by omega]
    · simp [h, h2, show ¬ k < i + 1 by omega]
set_option maxRecDepth 100000 in
theorem tJ7_fill {Γ : CT} {w : PW} {h N : Nat} {f : Nat → Int32} {v : Int32} (hw : w[h]? = some (aI N f)) (hN : N < 60000) : Cl Γ yJ7_fill_53178 XJ7_fill_53178 0 0 0 [.ref h, .int v] w (rN fun w1 => Fr w w1 (fun q => q = h) ∧ w1[h]? = some (aI N (fun _ => v))) := by
  have loop : ∀ (m i : Nat) (u : PW), i + m = N → (u[h]? = some (aI N (fun k => if k < i then v else f k))) → (Fr w u (fun q => q = h)) → Rn Γ XJ7_fill_53178 (rmO 0 0 0) none (FinM (rN fun w1 => Fr w w1 (fun q => q = h) ∧ w1[h]? = some (aI N (fun _ => v))) 0 0) 0 0 u 5 [some (.ref h), some (.int v), some (.int (nI i)), some (.int (nI N))] [] := by
    intro m
    induction m with
    | zero =>
      intro i u hi hu hF
      refine r_iload_n 6 dJ7_fill_53178_5 rfl rfl ?_
      refine r_iload_n 7 dJ7_fill_53178_6 rfl rfl ?_
      refine r_icmp_ge 20 10 dJ7_fill_53178_7 (by decide) rfl (fun q7 => ?_) (fun q7 => absurd q7 (fun z => z (nI_le (by omega) (by omega))))
      refine r_swI (g := fun _ => v) hu (fun k hk => by rw [if_pos (by omega)]) ?_
      refine r_vret dJ7_fill_53178_20 rfl (by decide) (by decide) ?_
      exact ⟨rfl, hF.tr (Fr.st rfl), gs_eq (is_of hu)⟩
    | succ m ih =>
      intro i u hi hu hF
      refine r_iload_n 6 dJ7_fill_53178_5 rfl rfl ?_
      refine r_iload_n 7 dJ7_fill_53178_6 rfl rfl ?_
      refine r_icmp_ge 20 10 dJ7_fill_53178_7 (by decide) rfl (fun q7 => absurd q7 (nI_ge (by omega) (by omega))) (fun q7 => ?_)
      refine r_aload_n 11 dJ7_fill_53178_10 rfl rfl rfl ?_
      refine r_iload_n 12 dJ7_fill_53178_11 rfl rfl ?_
      refine r_iload_n 13 dJ7_fill_53178_12 rfl rfl ?_
      refine r_iast 14 dJ7_fill_53178_13 rfl (i) (by repeat (first | assumption | refine gs_eq ?_ | refine gs_ne (by omega) ?_ | exact is_of (by assumption) | refine gs_is ?_)) rfl (by omega) (by omega) ?_
      refine r_iinc (ls1 := [_, _, _, _]) 17 dJ7_fill_53178_14 rfl (by decide) rfl rfl (nI_1 i) rfl ?_
      refine r_goto 5 dJ7_fill_53178_17 (by decide) ?_
      exact ih (i + 1) _ (by omega) (by rw [← fill_step]; exact gs_eq (is_of hu)) (hF.tr (Fr.st rfl))
  refine Cl.of (ls := [some (.ref h), some (.int v), none, none]) rfl (by decide +kernel) (fun h => by cases h) (Nat.le_of_ble_eq_true rfl) rfl ?_
  refine r_iconst (v := 0) 1 dJ7_fill_53178_0 rfl (by decide) ?_
  refine r_istore_n (ls1 := [_, _, _, _]) 2 dJ7_fill_53178_1 rfl (by decide) rfl rfl ?_
  refine r_aload_n 3 dJ7_fill_53178_2 rfl rfl rfl ?_
  refine r_alenI 4 dJ7_fill_53178_3 rfl (by repeat (first | assumption | refine gs_eq ?_ | refine gs_ne (by omega) ?_ | exact is_of (by assumption) | refine gs_is ?_)) ?_
  refine r_istore_n (ls1 := [_, _, _, _]) 5 dJ7_fill_53178_4 rfl (by decide) rfl rfl ?_
  exact loop N 0 w (by omega) (by simpa using hw) Fr.rf

set_option maxRecDepth 100000 in
theorem tX0_empty {Γ : CT} {w : PW} {b : Nat} {f n : Nat → Int32} {mv jp : Int32} (hb : isBd w b f n mv jp) : Cl Γ yX0_empty XX0_empty 1 0 0 [.ref b] w (rN (toBd w b (fun _ => -6) (fun _ => 0) 0 (-6))) := by
  refine Cl.of (ls := [some (.ref b)]) rfl (by decide +kernel) (fun h => by cases h) (Nat.le_of_ble_eq_true rfl) rfl ?_
  obtain ⟨h0, h1, h2⟩ := id hb
  refine r_aload_n 1 dX0_empty_0 rfl rfl rfl ?_
  refine r_getf 4 dX0_empty_1 rfl f_X0_9.r (by repeat (first | assumption | refine gs_eq ?_ | refine gs_ne (by omega) ?_ | exact is_of (by assumption) | refine gs_is ?_)) rfl ?_
  refine r_bipush (v := (-6)) 6 dX0_empty_4 rfl (by decide) ?_
  refine r_callS0 9 dX0_empty_6 rfl (tJ7_fill h1 (by decide)) l_X0_25 mJ7_fill_53178 rfl (by decide) (Nat.le_of_ble_eq_true rfl) (by decide) (qN fun w1 hq1 => ?_)
  have g0 := hq1.1.at (by show ¬ _ = _; omega) h0
  refine r_aload_n 10 dX0_empty_9 rfl rfl rfl ?_
  refine r_getf 13 dX0_empty_10 rfl f_X0_15.r (by repeat (first | assumption | refine gs_eq ?_ | refine gs_ne (by omega) ?_ | exact is_of (by assumption) | refine gs_is ?_)) rfl ?_
  refine r_iconst (v := 0) 14 dX0_empty_13 rfl (by decide) ?_
  refine r_callS0 17 dX0_empty_14 rfl (tJ7_fill (hq1.1.at (by show ¬ _ = _; omega) h2) (by decide)) l_X0_25 mJ7_fill_53178 rfl (by decide) (Nat.le_of_ble_eq_true rfl) (by decide) (qN fun w2 hq2 => ?_)
  have g1 := hq2.1.at (by show ¬ _ = _; omega) hq1.2
  have g2 := hq2.2
  have g3 := hq2.1.at (by show ¬ _ = _; omega) g0
  have hB : toBd w b (fun _ => -6) (fun _ => 0) mv jp w2 := ⟨(hq1.1.mono (fun q e => ⟨by omega, by omega⟩)).tr (hq2.1.mono (fun q e => ⟨by omega, by omega⟩)), g3, g1, g2⟩
  refine r_aload_n 18 dX0_empty_17 rfl rfl rfl ?_
  refine r_iconst (v := 0) 19 dX0_empty_18 rfl (by decide) ?_
  refine r_putf (fs1 := [_, _, _, _]) 22 dX0_empty_19 rfl f_X0_18 (by repeat (first | assumption | refine gs_eq ?_ | refine gs_ne (by omega) ?_ | exact is_of (by assumption) | refine gs_is ?_)) rfl (by simp only [List.length_cons, List.length_nil]; omega) rfl ?_
  refine r_aload_n 23 dX0_empty_22 rfl rfl rfl ?_
  refine r_bipush (v := (-6)) 25 dX0_empty_23 rfl (by decide) ?_
  refine r_putf (fs1 := [_, _, _, _]) 28 dX0_empty_25 rfl f_X0_22 (by repeat (first | assumption | refine gs_eq ?_ | refine gs_ne (by omega) ?_ | exact is_of (by assumption) | refine gs_is ?_)) rfl (by simp only [List.length_cons, List.length_nil]; omega) rfl ?_
  refine r_vret dX0_empty_28 rfl (by decide) (by decide) ?_
  exact ⟨rfl, (hB.tr hB.2.setO).tr (hB.tr hB.2.setO).2.setO⟩

set_option maxRecDepth 100000 in
theorem tX0_copyFrom {Γ : CT} {w : PW} {b : Nat} {f n : Nat → Int32} {mv jp : Int32} {c : Nat} {f2 n2 : Nat → Int32} {mv2 jp2 : Int32} (hb : isBd w b f n mv jp) (hc : isBd w c f2 n2 mv2 jp2) (hbc : b + 3 ≤ c ∨ c + 3 ≤ b) : Cl Γ yX0_copyFrom XX0_copyFrom 1 0 0 [.ref b, .ref c] w (rN (toBd w b f2 n2 mv2 jp2)) := by
  refine Cl.of (ls := [some (.ref b), some (.ref c)]) rfl (by decide +kernel) (fun h => by cases h) (Nat.le_of_ble_eq_true rfl) rfl ?_
  obtain ⟨h0, h1, h2⟩ := id hb
  obtain ⟨c0, c1, c2⟩ := id hc
  refine r_aload_n 1 dX0_copyFrom_0 rfl rfl rfl ?_
  refine r_getf 4 dX0_copyFrom_1 rfl f_X0_9.r (by repeat (first | assumption | refine gs_eq ?_ | refine gs_ne (by omega) ?_ | exact is_of (by assumption) | refine gs_is ?_)) rfl ?_
  refine r_iconst (v := 0) 5 dX0_copyFrom_4 rfl (by decide) ?_
  refine r_aload_n 6 dX0_copyFrom_5 rfl rfl rfl ?_
  refine r_getf 9 dX0_copyFrom_6 rfl f_X0_9.r (by repeat (first | assumption | refine gs_eq ?_ | refine gs_ne (by omega) ?_ | exact is_of (by assumption) | refine gs_is ?_)) rfl ?_
  refine r_iconst (v := 0) 10 dX0_copyFrom_9 rfl (by decide) ?_
  refine r_bipush (v := 48) 12 dX0_copyFrom_10 rfl (by decide) ?_
  refine r_copyI 15 dX0_copyFrom_12 rfl (by repeat (first | assumption | refine gs_eq ?_ | refine gs_ne (by omega) ?_ | exact is_of (by assumption) | refine gs_is ?_)) (by repeat (first | assumption | refine gs_eq ?_ | refine gs_ne (by omega) ?_ | exact is_of (by assumption) | refine gs_is ?_)) rfl rfl rfl (by decide) l_X0_31 w_cp1 w_cp2 w_cp3 (Nat.le_of_ble_eq_true rfl) (by decide) ?_
  refine r_aload_n 16 dX0_copyFrom_15 rfl rfl rfl ?_
  refine r_getf 19 dX0_copyFrom_16 rfl f_X0_15.r (by repeat (first | assumption | refine gs_eq ?_ | refine gs_ne (by omega) ?_ | exact is_of (by assumption) | refine gs_is ?_)) rfl ?_
  refine r_iconst (v := 0) 20 dX0_copyFrom_19 rfl (by decide) ?_
  refine r_aload_n 21 dX0_copyFrom_20 rfl rfl rfl ?_
  refine r_getf 24 dX0_copyFrom_21 rfl f_X0_15.r (by repeat (first | assumption | refine gs_eq ?_ | refine gs_ne (by omega) ?_ | exact is_of (by assumption) | refine gs_is ?_)) rfl ?_
  refine r_iconst (v := 0) 25 dX0_copyFrom_24 rfl (by decide) ?_
  refine r_iconst (v := 4) 26 dX0_copyFrom_25 rfl (by decide) ?_
  refine r_copyI 29 dX0_copyFrom_26 rfl (by repeat (first | assumption | refine gs_eq ?_ | refine gs_ne (by omega) ?_ | exact is_of (by assumption) | refine gs_is ?_)) (by repeat (first | assumption | refine gs_eq ?_ | refine gs_ne (by omega) ?_ | exact is_of (by assumption) | refine gs_is ?_)) rfl rfl rfl (by decide) l_X0_31 w_cp1 w_cp2 w_cp3 (Nat.le_of_ble_eq_true rfl) (by decide) ?_
  refine r_aload_n 30 dX0_copyFrom_29 rfl rfl rfl ?_
  refine r_aload_n 31 dX0_copyFrom_30 rfl rfl rfl ?_
  refine r_getf 34 dX0_copyFrom_31 rfl f_X0_18.r (by repeat (first | assumption | refine gs_eq ?_ | refine gs_ne (by omega) ?_ | exact is_of (by assumption) | refine gs_is ?_)) rfl ?_
  refine r_putf (fs1 := [_, _, _, _]) 37 dX0_copyFrom_34 rfl f_X0_18 (by repeat (first | assumption | refine gs_eq ?_ | refine gs_ne (by omega) ?_ | exact is_of (by assumption) | refine gs_is ?_)) rfl (by simp only [List.length_cons, List.length_nil]; omega) rfl ?_
  refine r_aload_n 38 dX0_copyFrom_37 rfl rfl rfl ?_
  refine r_aload_n 39 dX0_copyFrom_38 rfl rfl rfl ?_
  refine r_getf 42 dX0_copyFrom_39 rfl f_X0_22.r (by repeat (first | assumption | refine gs_eq ?_ | refine gs_ne (by omega) ?_ | exact is_of (by assumption) | refine gs_is ?_)) rfl ?_
  refine r_putf (fs1 := [_, _, _, _]) 45 dX0_copyFrom_42 rfl f_X0_22 (by repeat (first | assumption | refine gs_eq ?_ | refine gs_ne (by omega) ?_ | exact is_of (by assumption) | refine gs_is ?_)) rfl (by simp only [List.length_cons, List.length_nil]; omega) rfl ?_
  refine r_vret dX0_copyFrom_45 rfl (by decide) (by decide) ?_
  exact ⟨rfl, (((hb.setF).tr (hb.setF).2.setN).tr ((hb.setF).tr (hb.setF).2.setN).2.setO).tr ((((hb.setF).tr (hb.setF).2.setN).tr ((hb.setF).tr (hb.setF).2.setN).2.setO)).2.setO⟩

def rowF (f : Nat → Int32) (p : Int32) (r : Nat) : Nat → (Nat → Int32)
  | 0 => f
  | i + 1 => plF (rowF f p r i) (nI (r * 6 + i)) p
def rowN (f n : Nat → Int32) (p : Int32) (r : Nat) : Nat → (Nat → Int32)
  | 0 => n
  | i + 1 => plN (rowF f p r i) (rowN f n p r i) (nI (r * 6 + i)) p
set_option maxRecDepth 100000 in
theorem tX0_fillRow {Γ : CT} {w : PW} {b : Nat} {f n : Nat → Int32} {mv jp : Int32} {p : Int32} {r : Nat} (hb : isBd w b f n mv jp) : Cl Γ yX0_fillRow XX0_fillRow 2 0 0 [.ref b, .int (nI r), .int p] w (rN (toBd w b (rowF f p r 6) (rowN f n p r 6) mv jp)) := by
  have loop : ∀ (m i : Nat) (u : PW), i + m = 6 → (toBd w b (rowF f p r i) (rowN f n p r i) mv jp u) → Rn Γ XX0_fillRow (rmO 2 0 0) none (FinM (rN (toBd w b (rowF f p r 6) (rowN f n p r 6) mv jp)) 0 0) 0 0 u 2 [some (.ref b), some (.int (nI r)), some (.int p), some (.int (nI i))] [] := by
    intro m
    induction m with
    | zero =>
      intro i u hi hu
      have h6 : i = 6 := by omega
      subst h6
      refine r_iload_n 3 dX0_fillRow_2 rfl rfl ?_
      refine r_bipush (v := nI 6) 5 dX0_fillRow_3 rfl (by decide) ?_
      refine r_icmp_ge 25 8 dX0_fillRow_5 (by decide) rfl (fun q5 => ?_) (fun q5 => absurd q5 (fun z => z (nI_le (by omega) (by omega))))
      refine r_vret dX0_fillRow_25 rfl (by decide) (by decide) ?_
      exact ⟨rfl, hu⟩
    | succ m ih =>
      intro i u hi hu
      obtain ⟨h0, h1, h2⟩ := id hu.2
      refine r_iload_n 3 dX0_fillRow_2 rfl rfl ?_
      refine r_bipush (v := nI 6) 5 dX0_fillRow_3 rfl (by decide) ?_
      refine r_icmp_ge 25 8 dX0_fillRow_5 (by decide) rfl (fun q5 => absurd q5 (nI_ge (by omega) (by omega))) (fun q5 => ?_)
      refine r_aload_n 9 dX0_fillRow_8 rfl rfl rfl ?_
      refine r_iload_n 10 dX0_fillRow_9 rfl rfl ?_
      refine r_bipush (v := nI 6) 12 dX0_fillRow_10 rfl (by decide) ?_
      refine r_imul 13 dX0_fillRow_12 rfl ?_
      refine r_iload_n 14 dX0_fillRow_13 rfl rfl ?_
      refine r_iadd 15 dX0_fillRow_14 rfl ?_
      refine r_iload_n 16 dX0_fillRow_15 rfl rfl ?_
      rw [pk_mul, nI_add]
      refine r_callV0 19 dX0_fillRow_16 rfl (tX0_place hu.2) l_X0_37 mX0_place rfl (by repeat (first | assumption | refine gs_eq ?_ | refine gs_ne (by omega) ?_ | exact is_of (by assumption) | refine gs_is ?_)) rfl (by decide) (Nat.le_of_ble_eq_true rfl) (by decide) (qN fun w1 hq1 => ?_)
      refine r_iinc (ls1 := [_, _, _, _]) 22 dX0_fillRow_19 rfl (by decide) rfl rfl (nI_1 i) rfl ?_
      refine r_goto 2 dX0_fillRow_22 (by decide) ?_
      exact ih (i + 1) _ (by omega) (hu.tr hq1)
  refine Cl.of (ls := [some (.ref b), some (.int (nI r)), some (.int p), none]) rfl (by decide +kernel) (fun h => by cases h) (Nat.le_of_ble_eq_true rfl) rfl ?_
  refine r_iconst (v := 0) 1 dX0_fillRow_0 rfl (by decide) ?_
  refine r_istore_n (ls1 := [_, _, _, _]) 2 dX0_fillRow_1 rfl (by decide) rfl rfl ?_
  exact loop 6 0 w (by omega) ⟨Fr.rf, hb⟩

