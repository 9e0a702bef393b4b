/-! ===== the model: the game in its row of numbers ===== -/
def zA (z : Nat → Int32) (f : Nat → Int32) (mv oc cs : Int32) (cl : Nat → Int32) (mk jp : Int32) (lo : Nat → Int32) (qt : Int32) (P : List P3) : Prop := (∀ s, s < 48 → z s = f s) ∧ z 48 = mv ∧ z 49 = oc ∧ z 50 = cs ∧ z 51 = cl 0 ∧ z 52 = cl 1 ∧ z 53 = mk ∧ z 54 = jp ∧ z 55 = lo 0 ∧ z 56 = lo 1 ∧ z 57 = qt ∧ z 58 = nI P.length ∧ ∀ (i : Nat) (p : P3), P[i]? = some p → ∀ k, k < 6 → z (59 + 6 * i + k) = encP p k
theorem zA.F {z : Nat → Int32} {f : Nat → Int32} {mv oc cs : Int32} {cl : Nat → Int32} {mk jp : Int32} {lo : Nat → Int32} {qt : Int32} {P : List P3} (h : zA z f mv oc cs cl mk jp lo qt P) : zF z f mv jp oc := ⟨h.1, h.2.1, h.2.2.2.2.2.2.2.1, h.2.2.1⟩
theorem zA.cg {z y : Nat → Int32} {f : Nat → Int32} {mv oc cs : Int32} {cl : Nat → Int32} {mk jp : Int32} {lo : Nat → Int32} {qt : Int32} {P : List P3} (h : zA z f mv oc cs cl mk jp lo qt P) (hP : P.length ≤ 62) (e : ∀ k, k < 431 → y k = z k) : zA y f mv oc cs cl mk jp lo qt P := by
  obtain ⟨h0, a48, a49, a50, a51, a52, a53, a54, a55, a56, a57, a58, hp⟩ := h
  exact ⟨fun s hs => (e s (by omega)).trans (h0 s hs), (e _ (by decide)).trans a48, (e _ (by decide)).trans a49, (e _ (by decide)).trans a50, (e _ (by decide)).trans a51, (e _ (by decide)).trans a52, (e _ (by decide)).trans a53, (e _ (by decide)).trans a54, (e _ (by decide)).trans a55, (e _ (by decide)).trans a56, (e _ (by decide)).trans a57, (e _ (by decide)).trans a58, fun i p hi k hk => (e _ (by have := (List.getElem?_eq_some_iff.mp hi).1; omega)).trans (hp i p hi k hk)⟩
def zS (q : Nat) : Prop := q = 44 ∨ wS q
def toZ (w : PW) (f : Nat → Int32) (mv oc cs : Int32) (cl : Nat → Int32) (mk jp : Int32) (lo : Nat → Int32) (qt : Int32) (P : List P3) : PW → Prop := fun w1 => Fr w w1 zS ∧ ∃ z V, w1[44]? = some (aI 431 z) ∧ zA z f mv oc cs cl mk jp lo qt P ∧ isW w1 V
theorem zA.s48 {z : Nat → Int32} {f : Nat → Int32} {mv oc cs : Int32} {cl : Nat → Int32} {mk jp : Int32} {lo : Nat → Int32} {qt : Int32} {P : List P3} {x : Int32} (h : zA z f mv oc cs cl mk jp lo qt P) : zA (upd z 48 x) f x oc cs cl mk jp lo qt P := by
  obtain ⟨h0, a48, a49, a50, a51, a52, a53, a54, a55, a56, a57, a58, hp⟩ := h
  exact ⟨fun s hs => (pk_un (by omega)).trans (h0 s hs), pk_us, (pk_un (by decide)).trans a49, (pk_un (by decide)).trans a50, (pk_un (by decide)).trans a51, (pk_un (by decide)).trans a52, (pk_un (by decide)).trans a53, (pk_un (by decide)).trans a54, (pk_un (by decide)).trans a55, (pk_un (by decide)).trans a56, (pk_un (by decide)).trans a57, (pk_un (by decide)).trans a58, fun i p hi k hk => (pk_un (by omega)).trans (hp i p hi k hk)⟩
theorem zA.s49 {z : Nat → Int32} {f : Nat → Int32} {mv oc cs : Int32} {cl : Nat → Int32} {mk jp : Int32} {lo : Nat → Int32} {qt : Int32} {P : List P3} {x : Int32} (h : zA z f mv oc cs cl mk jp lo qt P) : zA (upd z 49 x) f mv x cs cl mk jp lo qt P := by
  obtain ⟨h0, a48, a49, a50, a51, a52, a53, a54, a55, a56, a57, a58, hp⟩ := h
  exact ⟨fun s hs => (pk_un (by omega)).trans (h0 s hs), (pk_un (by decide)).trans a48, pk_us, (pk_un (by decide)).trans a50, (pk_un (by decide)).trans a51, (pk_un (by decide)).trans a52, (pk_un (by decide)).trans a53, (pk_un (by decide)).trans a54, (pk_un (by decide)).trans a55, (pk_un (by decide)).trans a56, (pk_un (by decide)).trans a57, (pk_un (by decide)).trans a58, fun i p hi k hk => (pk_un (by omega)).trans (hp i p hi k hk)⟩
theorem zA.s50 {z : Nat → Int32} {f : Nat → Int32} {mv oc cs : Int32} {cl : Nat → Int32} {mk jp : Int32} {lo : Nat → Int32} {qt : Int32} {P : List P3} {x : Int32} (h : zA z f mv oc cs cl mk jp lo qt P) : zA (upd z 50 x) f mv oc x cl mk jp lo qt P := by
  obtain ⟨h0, a48, a49, a50, a51, a52, a53, a54, a55, a56, a57, a58, hp⟩ := h
  exact ⟨fun s hs => (pk_un (by omega)).trans (h0 s hs), (pk_un (by decide)).trans a48, (pk_un (by decide)).trans a49, pk_us, (pk_un (by decide)).trans a51, (pk_un (by decide)).trans a52, (pk_un (by decide)).trans a53, (pk_un (by decide)).trans a54, (pk_un (by decide)).trans a55, (pk_un (by decide)).trans a56, (pk_un (by decide)).trans a57, (pk_un (by decide)).trans a58, fun i p hi k hk => (pk_un (by omega)).trans (hp i p hi k hk)⟩
theorem zA.s51 {z : Nat → Int32} {f : Nat → Int32} {mv oc cs : Int32} {cl : Nat → Int32} {mk jp : Int32} {lo : Nat → Int32} {qt : Int32} {P : List P3} {x : Int32} (h : zA z f mv oc cs cl mk jp lo qt P) : zA (upd z 51 x) f mv oc cs (upd cl 0 x) mk jp lo qt P := by
  obtain ⟨h0, a48, a49, a50, a51, a52, a53, a54, a55, a56, a57, a58, hp⟩ := h
  exact ⟨fun s hs => (pk_un (by omega)).trans (h0 s hs), (pk_un (by decide)).trans a48, (pk_un (by decide)).trans a49, (pk_un (by decide)).trans a50, pk_us.trans pk_us.symm, (pk_un (by decide)).trans (a52.trans (pk_un (by decide)).symm), (pk_un (by decide)).trans a53, (pk_un (by decide)).trans a54, (pk_un (by decide)).trans a55, (pk_un (by decide)).trans a56, (pk_un (by decide)).trans a57, (pk_un (by decide)).trans a58, fun i p hi k hk => (pk_un (by omega)).trans (hp i p hi k hk)⟩
theorem zA.s52 {z : Nat → Int32} {f : Nat → Int32} {mv oc cs : Int32} {cl : Nat → Int32} {mk jp : Int32} {lo : Nat → Int32} {qt : Int32} {P : List P3} {x : Int32} (h : zA z f mv oc cs cl mk jp lo qt P) : zA (upd z 52 x) f mv oc cs (upd cl 1 x) mk jp lo qt P := by
  obtain ⟨h0, a48, a49, a50, a51, a52, a53, a54, a55, a56, a57, a58, hp⟩ := h
  exact ⟨fun s hs => (pk_un (by omega)).trans (h0 s hs), (pk_un (by decide)).trans a48, (pk_un (by decide)).trans a49, (pk_un (by decide)).trans a50, (pk_un (by decide)).trans (a51.trans (pk_un (by decide)).symm), pk_us.trans pk_us.symm, (pk_un (by decide)).trans a53, (pk_un (by decide)).trans a54, (pk_un (by decide)).trans a55, (pk_un (by decide)).trans a56, (pk_un (by decide)).trans a57, (pk_un (by decide)).trans a58, fun i p hi k hk => (pk_un (by omega)).trans (hp i p hi k hk)⟩
theorem zA.s53 {z : Nat → Int32} {f : Nat → Int32} {mv oc cs : Int32} {cl : Nat → Int32} {mk jp : Int32} {lo : Nat → Int32} {qt : Int32} {P : List P3} {x : Int32} (h : zA z f mv oc cs cl mk jp lo qt P) : zA (upd z 53 x) f mv oc cs cl x jp lo qt P := by
  obtain ⟨h0, a48, a49, a50, a51, a52, a53, a54, a55, a56, a57, a58, hp⟩ := h
  exact ⟨fun s hs => (pk_un (by omega)).trans (h0 s hs), (pk_un (by decide)).trans a48, (pk_un (by decide)).trans a49, (pk_un (by decide)).trans a50, (pk_un (by decide)).trans a51, (pk_un (by decide)).trans a52, pk_us, (pk_un (by decide)).trans a54, (pk_un (by decide)).trans a55, (pk_un (by decide)).trans a56, (pk_un (by decide)).trans a57, (pk_un (by decide)).trans a58, fun i p hi k hk => (pk_un (by omega)).trans (hp i p hi k hk)⟩
theorem zA.s54 {z : Nat → Int32} {f : Nat → Int32} {mv oc cs : Int32} {cl : Nat → Int32} {mk jp : Int32} {lo : Nat → Int32} {qt : Int32} {P : List P3} {x : Int32} (h : zA z f mv oc cs cl mk jp lo qt P) : zA (upd z 54 x) f mv oc cs cl mk x lo qt P := by
  obtain ⟨h0, a48, a49, a50, a51, a52, a53, a54, a55, a56, a57, a58, hp⟩ := h
  exact ⟨fun s hs => (pk_un (by omega)).trans (h0 s hs), (pk_un (by decide)).trans a48, (pk_un (by decide)).trans a49, (pk_un (by decide)).trans a50, (pk_un (by decide)).trans a51, (pk_un (by decide)).trans a52, (pk_un (by decide)).trans a53, pk_us, (pk_un (by decide)).trans a55, (pk_un (by decide)).trans a56, (pk_un (by decide)).trans a57, (pk_un (by decide)).trans a58, fun i p hi k hk => (pk_un (by omega)).trans (hp i p hi k hk)⟩
theorem zA.s55 {z : Nat → Int32} {f : Nat → Int32} {mv oc cs : Int32} {cl : Nat → Int32} {mk jp : Int32} {lo : Nat → Int32} {qt : Int32} {P : List P3} {x : Int32} (h : zA z f mv oc cs cl mk jp lo qt P) : zA (upd z 55 x) f mv oc cs cl mk jp (upd lo 0 x) qt P := by
  obtain ⟨h0, a48, a49, a50, a51, a52, a53, a54, a55, a56, a57, a58, hp⟩ := h
  exact ⟨fun s hs => (pk_un (by omega)).trans (h0 s hs), (pk_un (by decide)).trans a48, (pk_un (by decide)).trans a49, (pk_un (by decide)).trans a50, (pk_un (by decide)).trans a51, (pk_un (by decide)).trans a52, (pk_un (by decide)).trans a53, (pk_un (by decide)).trans a54, pk_us.trans pk_us.symm, (pk_un (by decide)).trans (a56.trans (pk_un (by decide)).symm), (pk_un (by decide)).trans a57, (pk_un (by decide)).trans a58, fun i p hi k hk => (pk_un (by omega)).trans (hp i p hi k hk)⟩
theorem zA.s56 {z : Nat → Int32} {f : Nat → Int32} {mv oc cs : Int32} {cl : Nat → Int32} {mk jp : Int32} {lo : Nat → Int32} {qt : Int32} {P : List P3} {x : Int32} (h : zA z f mv oc cs cl mk jp lo qt P) : zA (upd z 56 x) f mv oc cs cl mk jp (upd lo 1 x) qt P := by
  obtain ⟨h0, a48, a49, a50, a51, a52, a53, a54, a55, a56, a57, a58, hp⟩ := h
  exact ⟨fun s hs => (pk_un (by omega)).trans (h0 s hs), (pk_un (by decide)).trans a48, (pk_un (by decide)).trans a49, (pk_un (by decide)).trans a50, (pk_un (by decide)).trans a51, (pk_un (by decide)).trans a52, (pk_un (by decide)).trans a53, (pk_un (by decide)).trans a54, (pk_un (by decide)).trans (a55.trans (pk_un (by decide)).symm), pk_us.trans pk_us.symm, (pk_un (by decide)).trans a57, (pk_un (by decide)).trans a58, fun i p hi k hk => (pk_un (by omega)).trans (hp i p hi k hk)⟩
theorem zA.s57 {z : Nat → Int32} {f : Nat → Int32} {mv oc cs : Int32} {cl : Nat → Int32} {mk jp : Int32} {lo : Nat → Int32} {qt : Int32} {P : List P3} {x : Int32} (h : zA z f mv oc cs cl mk jp lo qt P) : zA (upd z 57 x) f mv oc cs cl mk jp lo x P := by
  obtain ⟨h0, a48, a49, a50, a51, a52, a53, a54, a55, a56, a57, a58, hp⟩ := h
  exact ⟨fun s hs => (pk_un (by omega)).trans (h0 s hs), (pk_un (by decide)).trans a48, (pk_un (by decide)).trans a49, (pk_un (by decide)).trans a50, (pk_un (by decide)).trans a51, (pk_un (by decide)).trans a52, (pk_un (by decide)).trans a53, (pk_un (by decide)).trans a54, (pk_un (by decide)).trans a55, (pk_un (by decide)).trans a56, pk_us, (pk_un (by decide)).trans a58, fun i p hi k hk => (pk_un (by omega)).trans (hp i p hi k hk)⟩
theorem zA.sB {z : Nat → Int32} {f : Nat → Int32} {mv oc cs : Int32} {cl : Nat → Int32} {mk jp : Int32} {lo : Nat → Int32} {qt : Int32} {P : List P3} {s : Nat} {x : Int32} (h : zA z f mv oc cs cl mk jp lo qt P) (hs : s < 48) : zA (upd z s x) (upd f s x) mv oc cs cl mk jp lo qt P := by
  obtain ⟨h0, a48, a49, a50, a51, a52, a53, a54, a55, a56, a57, a58, hp⟩ := h
  refine ⟨fun t ht => ?_, (pk_un (by omega)).trans a48, (pk_un (by omega)).trans a49, (pk_un (by omega)).trans a50, (pk_un (by omega)).trans a51, (pk_un (by omega)).trans a52, (pk_un (by omega)).trans a53, (pk_un (by omega)).trans a54, (pk_un (by omega)).trans a55, (pk_un (by omega)).trans a56, (pk_un (by omega)).trans a57, (pk_un (by omega)).trans a58, fun i p hi k hk => (pk_un (by omega)).trans (hp i p hi k hk)⟩
  by_cases e : t = s
  · rw [e, pk_us, pk_us]
  · rw [pk_un e, pk_un e]
    exact h0 t ht
theorem zA.bd {z : Nat → Int32} {f : Nat → Int32} {mv oc cs : Int32} {cl : Nat → Int32} {mk jp : Int32} {lo : Nat → Int32} {qt : Int32} {P : List P3} {g : Nat → Int32} (h : zA z f mv oc cs cl mk jp lo qt P) (hg : ∀ s, s < 48 → g s = f s) : zA z g mv oc cs cl mk jp lo qt P := ⟨fun s hs => (h.1 s hs).trans (hg s hs).symm, h.2⟩
set_option maxRecDepth 100000 in
theorem tX7_squaresOf {Γ : CT} {w : PW} {pm ty rm sp wr : Int32} {z f : Nat → Int32} {k : Nat} (ho : w[43]? = some (oM pm ty rm sp wr)) (hz : w[44]? = some (aI 431 z)) (hz0 : ∀ s, s < 48 → z s = f s) (hk : k < 5) : Cl Γ yX7_squaresOf XX7_squaresOf 0 0 0 [.ref 43, .int (nI (10 * k))] w (rI (sqc f (min 10 (48 - 10 * k)) (10 * k) 0) w) := by
  have loop : ∀ (m i : Nat) (c : Int32), i + m = min 10 (48 - 10 * k) → (sqc f m (10 * k + i) c = sqc f (min 10 (48 - 10 * k)) (10 * k) 0) → Rn Γ XX7_squaresOf (rmO 0 0 0) none (FinM (rI (sqc f (min 10 (48 - 10 * k)) (10 * k) 0) w) 0 0) 0 0 w 4 [some (.ref 43), some (.int (nI (10 * k))), some (.int c), some (.int (nI (10 * k + i)))] [] := by
    intro m
    induction m with
    | zero =>
      intro i c hi hu
      refine r_iload_n 5 dX7_squaresOf_4 rfl rfl ?_
      refine r_iload_n 6 dX7_squaresOf_5 rfl rfl ?_
      refine r_bipush (v := nI 10) 8 dX7_squaresOf_6 rfl (by decide) ?_
      refine r_iadd 9 dX7_squaresOf_8 rfl ?_
      rw [nI_add]
      refine r_icmp_ge 54 12 dX7_squaresOf_9 (by decide) rfl (fun q9 => ?_) (fun q9 => ?_)
      · refine r_iload_n 55 dX7_squaresOf_54 rfl rfl ?_
        refine r_iret dX7_squaresOf_55 rfl (by decide) (by decide) ?_
        exact ⟨by rw [← hu]; rfl, rfl⟩
      · have h9 : 10 * k + i < 10 * k + 10 := by
          rcases Nat.lt_or_ge (10 * k + i) (10 * k + 10) with h | h
          · exact h
          · exact absurd (nI_le h (by omega)) q9
        refine r_iload_n 13 dX7_squaresOf_12 rfl rfl ?_
        refine r_bipush (v := nI 48) 15 dX7_squaresOf_13 rfl (by decide) ?_
        refine r_icmp_ge 54 18 dX7_squaresOf_15 (by decide) rfl (fun q15 => ?_) (fun q15 => absurd q15 (fun z => z (nI_le (by omega) (by omega))))
        refine r_iload_n 55 dX7_squaresOf_54 rfl rfl ?_
        refine r_iret dX7_squaresOf_55 rfl (by decide) (by decide) ?_
        exact ⟨by rw [← hu]; rfl, rfl⟩
    | succ m ih =>
      intro i c hi hu
      refine r_iload_n 5 dX7_squaresOf_4 rfl rfl ?_
      refine r_iload_n 6 dX7_squaresOf_5 rfl rfl ?_
      refine r_bipush (v := nI 10) 8 dX7_squaresOf_6 rfl (by decide) ?_
      refine r_iadd 9 dX7_squaresOf_8 rfl ?_
      rw [nI_add]
      refine r_icmp_ge 54 12 dX7_squaresOf_9 (by decide) rfl (fun q9 => absurd q9 (nI_ge (by omega) (by omega))) (fun q9 => ?_)
      refine r_iload_n 13 dX7_squaresOf_12 rfl rfl ?_
      refine r_bipush (v := nI 48) 15 dX7_squaresOf_13 rfl (by decide) ?_
      refine r_icmp_ge 54 18 dX7_squaresOf_15 (by decide) rfl (fun q15 => absurd q15 (nI_ge (by omega) (by omega))) (fun q15 => ?_)
      refine r_iconst (v := 5) 19 dX7_squaresOf_18 rfl (by decide) ?_
      refine r_iload_n 20 dX7_squaresOf_19 rfl rfl ?_
      refine r_imul 21 dX7_squaresOf_20 rfl ?_
      refine r_aload_n 22 dX7_squaresOf_21 rfl rfl rfl ?_
      refine r_getf 25 dX7_squaresOf_22 rfl f_X7_7.r (by repeat (first | assumption | refine gs_eq ?_ | refine gs_ne (by omega) ?_ | exact is_of (by assumption) | refine gs_is ?_)) rfl ?_
      refine r_iconst (v := 0) 26 dX7_squaresOf_25 rfl (by decide) ?_
      refine r_iload_n 27 dX7_squaresOf_26 rfl rfl ?_
      refine r_iadd 28 dX7_squaresOf_27 rfl ?_
      refine r_iald 29 dX7_squaresOf_28 rfl (10 * k + i) (by repeat (first | assumption | refine gs_eq ?_ | refine gs_ne (by omega) ?_ | exact is_of (by assumption) | refine gs_is ?_)) (Int32.zero_add _) (by omega) (by decide) ?_
      rw [hz0 _ (by omega)]
      refine r_bipush (v := (-6)) 31 dX7_squaresOf_29 rfl (by decide) ?_
      refine r_icmp_ne 38 34 dX7_squaresOf_31 (by decide) rfl (fun q31 => ?_) (fun q31 => ?_)
      · refine r_aload_n 39 dX7_squaresOf_38 rfl rfl rfl ?_
        refine r_getf 42 dX7_squaresOf_39 rfl f_X7_7.r (by repeat (first | assumption | refine gs_eq ?_ | refine gs_ne (by omega) ?_ | exact is_of (by assumption) | refine gs_is ?_)) rfl ?_
        refine r_iconst (v := 0) 43 dX7_squaresOf_42 rfl (by decide) ?_
        refine r_iload_n 44 dX7_squaresOf_43 rfl rfl ?_
        refine r_iadd 45 dX7_squaresOf_44 rfl ?_
        refine r_iald 46 dX7_squaresOf_45 rfl (10 * k + i) (by repeat (first | assumption | refine gs_eq ?_ | refine gs_ne (by omega) ?_ | exact is_of (by assumption) | refine gs_is ?_)) (Int32.zero_add _) (by omega) (by decide) ?_
        skip
        refine r_iadd 47 dX7_squaresOf_46 rfl ?_
        refine r_istore_n (ls1 := [_, _, _, _]) 48 dX7_squaresOf_47 rfl (by decide) rfl rfl ?_
        refine r_iinc (ls1 := [_, _, _, _]) 51 dX7_squaresOf_48 rfl (by decide) rfl rfl (nI_1 (10 * k + i)) rfl ?_
        refine r_goto 4 dX7_squaresOf_51 (by decide) ?_
        first
        | exact ih (i + 1) _ (by omega) (by rw [← hu]; (conv => rhs; unfold sqc); rw [if_pos q31]; rfl)
        | (rw [hz0 _ (by omega)]
           exact ih (i + 1) _ (by omega) (by rw [← hu]; (conv => rhs; unfold sqc); rw [if_neg q31]; rfl))
      · refine r_iconst (v := 4) 35 dX7_squaresOf_34 rfl (by decide) ?_
        refine r_goto 46 dX7_squaresOf_35 (by decide) ?_
        skip
        refine r_iadd 47 dX7_squaresOf_46 rfl ?_
        refine r_istore_n (ls1 := [_, _, _, _]) 48 dX7_squaresOf_47 rfl (by decide) rfl rfl ?_
        refine r_iinc (ls1 := [_, _, _, _]) 51 dX7_squaresOf_48 rfl (by decide) rfl rfl (nI_1 (10 * k + i)) rfl ?_
        refine r_goto 4 dX7_squaresOf_51 (by decide) ?_
        first
        | exact ih (i + 1) _ (by omega) (by rw [← hu]; (conv => rhs; unfold sqc); rw [if_pos q31]; rfl)
        | (rw [hz0 _ (by omega)]
           exact ih (i + 1) _ (by omega) (by rw [← hu]; (conv => rhs; unfold sqc); rw [if_neg q31]; rfl))
  refine Cl.of (ls := [some (.ref 43), some (.int (nI (10 * k))), none, none]) rfl (by decide +kernel) (fun h => by cases h) (Nat.le_of_ble_eq_true rfl) rfl ?_
  refine r_iconst (v := 0) 1 dX7_squaresOf_0 rfl (by decide) ?_
  refine r_istore_n (ls1 := [_, _, _, _]) 2 dX7_squaresOf_1 rfl (by decide) rfl rfl ?_
  refine r_iload_n 3 dX7_squaresOf_2 rfl rfl ?_
  refine r_istore_n (ls1 := [_, _, _, _]) 4 dX7_squaresOf_3 rfl (by decide) rfl rfl ?_
  exact loop (min 10 (48 - 10 * k)) 0 0 (by omega) rfl

set_option maxRecDepth 100000 in
theorem tX7_writePosition {Γ : CT} {w : PW} {pm ty rm sp wr : Int32} {z : Nat → Int32} {f : Nat → Int32} {mv oc cs : Int32} {cl : Nat → Int32} {mk jp : Int32} {lo : Nat → Int32} {qt : Int32} {P : List P3} (ho : w[43]? = some (oM pm ty rm sp wr)) (hz : w[44]? = some (aI 431 z)) (hA : zA z f mv oc cs cl mk jp lo qt P) (hP : P.length ≤ 61) : Cl Γ yX7_writePosition XX7_writePosition 1 0 0 [.ref 43] w (rN (fun w1 => Fr w w1 (fun q => q = 44) ∧ ∃ y, w1[44]? = some (aI 431 y) ∧ zA y f mv oc cs cl mk jp lo qt (P ++ [(f, mv, jp)]))) := by
  obtain ⟨h0, a48, a49, a50, a51, a52, a53, a54, a55, a56, a57, a58, hp⟩ := id hA
  have loop : ∀ (m i : Nat) (u : PW) (y : Nat → Int32), i + m = 5 → (Fr w u (fun q => q = 44)) → (u[44]? = some (aI 431 y)) → (∀ j, j < 59 + 6 * P.length → y j = z j) → (∀ k, k < i → y (59 + 6 * P.length + k) = encP (f, mv, jp) k) → Rn Γ XX7_writePosition (rmO 1 0 0) none (FinM (rN (fun w1 => Fr w w1 (fun q => q = 44) ∧ ∃ y, w1[44]? = some (aI 431 y) ∧ zA y f mv oc cs cl mk jp lo qt (P ++ [(f, mv, jp)]))) 0 0) 0 0 u 16 [some (.ref 43), some (.int (nI (59 + 6 * P.length))), some (.int (nI i))] [] := by
    intro m
    induction m with
    | zero =>
      intro i u y hi hF hy hl hk5
      have oU := (hF.2 43 (by decide)).trans ho
      have h5 : i = 5 := by omega
      subst h5
      refine r_iload_n 17 dX7_writePosition_16 rfl rfl ?_
      refine r_iconst (v := nI 5) 18 dX7_writePosition_17 rfl (by decide) ?_
      refine r_icmp_ge 43 21 dX7_writePosition_18 (by decide) rfl (fun q18 => ?_) (fun q18 => absurd q18 (fun z => z (nI_le (by omega) (by omega))))
      refine r_aload_n 44 dX7_writePosition_43 rfl rfl rfl ?_
      refine r_getf 47 dX7_writePosition_44 rfl f_X7_7.r (by repeat (first | assumption | refine gs_eq ?_ | refine gs_ne (by omega) ?_ | exact is_of (by assumption) | refine gs_is ?_)) rfl ?_
      refine r_iload_n 48 dX7_writePosition_47 rfl rfl ?_
      refine r_iconst (v := nI 5) 49 dX7_writePosition_48 rfl (by decide) ?_
      refine r_iadd 50 dX7_writePosition_49 rfl ?_
      rw [nI_add]
      refine r_bipush (v := 100) 52 dX7_writePosition_50 rfl (by decide) ?_
      refine r_aload_n 53 dX7_writePosition_52 rfl rfl rfl ?_
      refine r_getf 56 dX7_writePosition_53 rfl f_X7_7.r (by repeat (first | assumption | refine gs_eq ?_ | refine gs_ne (by omega) ?_ | exact is_of (by assumption) | refine gs_is ?_)) rfl ?_
      refine r_bipush (v := 48) 58 dX7_writePosition_56 rfl (by decide) ?_
      refine r_iald 59 dX7_writePosition_58 rfl (48) (by repeat (first | assumption | refine gs_eq ?_ | refine gs_ne (by omega) ?_ | exact is_of (by assumption) | refine gs_is ?_)) rfl (by decide) (by decide) ?_
      rw [(hl 48 (by omega)).trans a48]
      refine r_imul 60 dX7_writePosition_59 rfl ?_
      refine r_aload_n 61 dX7_writePosition_60 rfl rfl rfl ?_
      refine r_getf 64 dX7_writePosition_61 rfl f_X7_7.r (by repeat (first | assumption | refine gs_eq ?_ | refine gs_ne (by omega) ?_ | exact is_of (by assumption) | refine gs_is ?_)) rfl ?_
      refine r_bipush (v := 54) 66 dX7_writePosition_64 rfl (by decide) ?_
      refine r_iald 67 dX7_writePosition_66 rfl (54) (by repeat (first | assumption | refine gs_eq ?_ | refine gs_ne (by omega) ?_ | exact is_of (by assumption) | refine gs_is ?_)) rfl (by decide) (by decide) ?_
      rw [(hl 54 (by omega)).trans a54]
      refine r_iadd 68 dX7_writePosition_67 rfl ?_
      refine r_iast 69 dX7_writePosition_68 rfl (59 + 6 * P.length + 5) (by repeat (first | assumption | refine gs_eq ?_ | refine gs_ne (by omega) ?_ | exact is_of (by assumption) | refine gs_is ?_)) rfl (by omega) (by decide) ?_
      refine r_aload_n 70 dX7_writePosition_69 rfl rfl rfl ?_
      refine r_getf 73 dX7_writePosition_70 rfl f_X7_7.r (by repeat (first | assumption | refine gs_eq ?_ | refine gs_ne (by omega) ?_ | exact is_of (by assumption) | refine gs_is ?_)) rfl ?_
      refine r_bipush (v := 58) 75 dX7_writePosition_73 rfl (by decide) ?_
      refine r_dup2 76 dX7_writePosition_75 rfl rfl rfl ?_
      refine r_iald 77 dX7_writePosition_76 rfl (58) (by repeat (first | assumption | refine gs_eq ?_ | refine gs_ne (by omega) ?_ | exact is_of (by assumption) | refine gs_is ?_)) rfl (by decide) (by decide) ?_
      rw [pk_un (by omega), (hl 58 (by omega)).trans a58]
      refine r_iconst (v := 1) 78 dX7_writePosition_77 rfl (by decide) ?_
      refine r_iadd 79 dX7_writePosition_78 rfl ?_
      rw [nI_1]
      refine r_iast 80 dX7_writePosition_79 rfl (58) (by repeat (first | assumption | refine gs_eq ?_ | refine gs_ne (by omega) ?_ | exact is_of (by assumption) | refine gs_is ?_)) rfl (by decide) (by decide) ?_
      refine r_vret dX7_writePosition_80 rfl (by decide) (by decide) ?_
      refine ⟨rfl, Fr.tr hF (Fr.tr (Fr.st rfl) (Fr.st rfl)), _, (by repeat (first | assumption | refine gs_eq ?_ | refine gs_ne (by omega) ?_ | exact is_of (by assumption) | refine gs_is ?_)), ?_⟩
      have hx : ∀ j, j < 58 → upd (upd y (59 + 6 * P.length + 5) (100 * mv + jp)) 58 (nI (P.length + 1)) j = z j := fun j hj => (pk_un (by omega)).trans ((pk_un (by omega)).trans (hl j (by omega)))
      refine ⟨fun s hs => (hx s (by omega)).trans (h0 s hs), (hx _ (by decide)).trans a48, (hx _ (by decide)).trans a49, (hx _ (by decide)).trans a50, (hx _ (by decide)).trans a51, (hx _ (by decide)).trans a52, (hx _ (by decide)).trans a53, (hx _ (by decide)).trans a54, (hx _ (by decide)).trans a55, (hx _ (by decide)).trans a56, (hx _ (by decide)).trans a57, by rw [List.length_append]; exact pk_us, fun i p hi k hk => ?_⟩
      refine (pk_un (by omega)).trans ?_
      rcases Nat.lt_or_ge i P.length with h | h
      · rw [List.getElem?_append_left h] at hi
        exact (pk_un (by omega)).trans ((hl _ (by omega)).trans (hp i p hi k hk))
      · have hi2 : i = P.length := by
          have := (List.getElem?_eq_some_iff.mp hi).1
          rw [List.length_append] at this
          have h3 : i < P.length + 1 := this
          omega
        subst hi2
        rw [List.getElem?_append_right (Nat.le_refl _), Nat.sub_self] at hi
        cases hi
        by_cases e : k = 5
        · subst e
          rw [pk_us]
          rfl
        · exact (pk_un (by omega)).trans (hk5 k (by omega))
    | succ m ih =>
      intro i u y hi hF hy hl hk5
      have oU := (hF.2 43 (by decide)).trans ho
      refine r_iload_n 17 dX7_writePosition_16 rfl rfl ?_
      refine r_iconst (v := nI 5) 18 dX7_writePosition_17 rfl (by decide) ?_
      refine r_icmp_ge 43 21 dX7_writePosition_18 (by decide) rfl (fun q18 => absurd q18 (nI_ge (by omega) (by omega))) (fun q18 => ?_)
      refine r_aload_n 22 dX7_writePosition_21 rfl rfl rfl ?_
      refine r_getf 25 dX7_writePosition_22 rfl f_X7_7.r (by repeat (first | assumption | refine gs_eq ?_ | refine gs_ne (by omega) ?_ | exact is_of (by assumption) | refine gs_is ?_)) rfl ?_
      refine r_iload_n 26 dX7_writePosition_25 rfl rfl ?_
      refine r_iload_n 27 dX7_writePosition_26 rfl rfl ?_
      refine r_iadd 28 dX7_writePosition_27 rfl ?_
      rw [nI_add]
      refine r_aload_n 29 dX7_writePosition_28 rfl rfl rfl ?_
      refine r_bipush (v := nI 10) 31 dX7_writePosition_29 rfl (by decide) ?_
      refine r_iload_n 32 dX7_writePosition_31 rfl rfl ?_
      refine r_imul 33 dX7_writePosition_32 rfl ?_
      rw [pk_mul]
      refine r_callV0 36 dX7_writePosition_33 rfl (tX7_squaresOf oU hy (fun s hs => (hl s (by omega)).trans (h0 s hs)) (by omega)) l_X7_121 mX7_squaresOf rfl (by repeat (first | assumption | refine gs_eq ?_ | refine gs_ne (by omega) ?_ | exact is_of (by assumption) | refine gs_is ?_)) rfl (by decide) (Nat.le_of_ble_eq_true rfl) (by decide) (qI ?_)
      refine r_iast 37 dX7_writePosition_36 rfl (59 + 6 * P.length + i) (by repeat (first | assumption | refine gs_eq ?_ | refine gs_ne (by omega) ?_ | exact is_of (by assumption) | refine gs_is ?_)) rfl (by omega) (by decide) ?_
      refine r_iinc (ls1 := [_, _, _]) 40 dX7_writePosition_37 rfl (by decide) rfl rfl (nI_1 i) rfl ?_
      refine r_goto 16 dX7_writePosition_40 (by decide) ?_
      refine ih (i + 1) _ _ (by omega) (Fr.tr hF (Fr.st rfl)) (by repeat (first | assumption | refine gs_eq ?_ | refine gs_ne (by omega) ?_ | exact is_of (by assumption) | refine gs_is ?_)) (fun j hj => (pk_un (by omega)).trans (hl j hj)) (fun k hk => ?_)
      rcases Nat.lt_or_ge k i with h | h
      · exact (pk_un (by omega)).trans (hk5 k h)
      · rw [show k = i by omega, pk_us]
        unfold encP
        rw [if_pos (by omega)]
  refine Cl.of (ls := [some (.ref 43), none, none]) rfl (by decide +kernel) (fun h => by cases h) (Nat.le_of_ble_eq_true rfl) rfl ?_
  refine r_bipush (v := nI 59) 2 dX7_writePosition_0 rfl (by decide) ?_
  refine r_bipush (v := nI 6) 4 dX7_writePosition_2 rfl (by decide) ?_
  refine r_aload_n 5 dX7_writePosition_4 rfl rfl rfl ?_
  refine r_getf 8 dX7_writePosition_5 rfl f_X7_7.r (by repeat (first | assumption | refine gs_eq ?_ | refine gs_ne (by omega) ?_ | exact is_of (by assumption) | refine gs_is ?_)) rfl ?_
  refine r_bipush (v := 58) 10 dX7_writePosition_8 rfl (by decide) ?_
  refine r_iald 11 dX7_writePosition_10 rfl (58) (by repeat (first | assumption | refine gs_eq ?_ | refine gs_ne (by omega) ?_ | exact is_of (by assumption) | refine gs_is ?_)) rfl (by decide) (by decide) ?_
  rw [a58]
  refine r_imul 12 dX7_writePosition_11 rfl ?_
  rw [pk_mul]
  refine r_iadd 13 dX7_writePosition_12 rfl ?_
  rw [nI_add]
  refine r_istore_n (ls1 := [_, _, _]) 14 dX7_writePosition_13 rfl (by decide) rfl rfl ?_
  refine r_iconst (v := nI 0) 15 dX7_writePosition_14 rfl (by decide) ?_
  refine r_istore_n (ls1 := [_, _, _]) 16 dX7_writePosition_15 rfl (by decide) rfl rfl ?_
  exact loop 5 0 w z (by omega) Fr.rf hz (fun _ _ => rfl) (fun k hk => by omega)

set_option maxRecDepth 100000 in
theorem tX7_timesCome {Γ : CT} {w : PW} {pm ty rm sp wr : Int32} {z : Nat → Int32} {f : Nat → Int32} {mv oc cs : Int32} {cl : Nat → Int32} {mk jp : Int32} {lo : Nat → Int32} {qt : Int32} {P : List P3} {l : P3} (ho : w[43]? = some (oM pm ty rm sp wr)) (hz : w[44]? = some (aI 431 z)) (hA : zA z f mv oc cs cl mk jp lo qt P) (hP : P.length ≤ 61) (hl : P[P.length - 1]? = some l) : Cl Γ yX7_timesCome XX7_timesCome 1 0 0 [.ref 43] w (rI (nI (P.countP (fun p => encE p l))) w) := by
  obtain ⟨h0, a48, a49, a50, a51, a52, a53, a54, a55, a56, a57, a58, hp⟩ := id hA
  have hP1 : 1 ≤ P.length := by
    have := (List.getElem?_eq_some_iff.mp hl).1
    omega
  have inner : ∀ (p c : Nat) (q : P3), P[p]? = some q → (∀ (x4 x5 : Option Value), nl x4 = true → nl x5 = true → Rn Γ XX7_timesCome (rmO 1 0 0) none (FinM (rI (nI (P.countP (fun p => encE p l))) w) 0 0) 0 0 w 20 [some (.ref 43), some (.int (nI (59 + 6 * (P.length - 1)))), some (.int (nI (c + (if encE q l = true then 1 else 0)))), some (.int (nI (p + 1))), x4, x5] []) → ∀ (m i : Nat) (b : Bool), i + m = 6 → b = (List.range i).all (fun k => decide (encP q k = encP l k)) → Rn Γ XX7_timesCome (rmO 1 0 0) none (FinM (rI (nI (P.countP (fun p => encE p l))) w) 0 0) 0 0 w 37 [some (.ref 43), some (.int (nI (59 + 6 * (P.length - 1)))), some (.int (nI c)), some (.int (nI p)), some (.int (bI b)), some (.int (nI i))] [] := by
    intro p c q hq kk m
    have hpl : p < P.length := (List.getElem?_eq_some_iff.mp hq).1
    induction m with
    | zero =>
      intro i b hi hb
      have h6 : i = 6 := by omega
      subst h6
      have hb2 : b = encE q l := hb
      refine r_iload 39 dX7_timesCome_37 rfl rfl ?_
      refine r_bipush (v := nI 6) 41 dX7_timesCome_39 rfl (by decide) ?_
      refine r_icmp_ge 89 44 dX7_timesCome_41 (by decide) rfl (fun q41 => ?_) (fun q41 => absurd q41 (fun z => z (nI_le (by omega) (by omega))))
      refine r_iload_n 90 dX7_timesCome_89 rfl rfl ?_
      refine r_iload 92 dX7_timesCome_90 rfl rfl ?_
      refine r_if_eq 99 95 dX7_timesCome_92 (by decide) rfl (fun q92 => ?_) (fun q92 => ?_)
      · refine r_iconst (v := 0) 100 dX7_timesCome_99 rfl (by decide) ?_
        refine r_iadd 101 dX7_timesCome_100 rfl ?_
        refine r_istore_n (ls1 := [_, _, _, _, _, _]) 102 dX7_timesCome_101 rfl (by decide) rfl rfl ?_
        refine r_iinc (ls1 := [_, _, _, _, _, _]) 105 dX7_timesCome_102 rfl (by decide) rfl rfl (nI_1 p) rfl ?_
        refine r_goto 20 dX7_timesCome_105 (by decide) ?_
        first
        | (have e : encE q l = true := by rw [← hb2]; exact ne_f q92
           rw [nI_1]
           have k2 := kk (some (.int (bI b))) (some (.int (nI 6))) rfl rfl
           rw [if_pos e] at k2
           exact k2)
        | (have e : ¬ encE q l = true := by rw [← hb2]; exact eq_f q92
           rw [Int32.add_zero]
           have k2 := kk (some (.int (bI b))) (some (.int (nI 6))) rfl rfl
           rw [if_neg e] at k2
           exact k2)
      · refine r_iconst (v := 1) 96 dX7_timesCome_95 rfl (by decide) ?_
        refine r_goto 100 dX7_timesCome_96 (by decide) ?_
        refine r_iadd 101 dX7_timesCome_100 rfl ?_
        refine r_istore_n (ls1 := [_, _, _, _, _, _]) 102 dX7_timesCome_101 rfl (by decide) rfl rfl ?_
        refine r_iinc (ls1 := [_, _, _, _, _, _]) 105 dX7_timesCome_102 rfl (by decide) rfl rfl (nI_1 p) rfl ?_
        refine r_goto 20 dX7_timesCome_105 (by decide) ?_
        first
        | (have e : encE q l = true := by rw [← hb2]; exact ne_f q92
           rw [nI_1]
           have k2 := kk (some (.int (bI b))) (some (.int (nI 6))) rfl rfl
           rw [if_pos e] at k2
           exact k2)
        | (have e : ¬ encE q l = true := by rw [← hb2]; exact eq_f q92
           rw [Int32.add_zero]
           have k2 := kk (some (.int (bI b))) (some (.int (nI 6))) rfl rfl
           rw [if_neg e] at k2
           exact k2)
    | succ m ih =>
      intro i b hi hb
      have e1 := hp p q hq i (by omega)
      have e2 := hp (P.length - 1) l hl i (by omega)
      refine r_iload 39 dX7_timesCome_37 rfl rfl ?_
      refine r_bipush (v := nI 6) 41 dX7_timesCome_39 rfl (by decide) ?_
      refine r_icmp_ge 89 44 dX7_timesCome_41 (by decide) rfl (fun q41 => absurd q41 (nI_ge (by omega) (by omega))) (fun q41 => ?_)
      refine r_iload 46 dX7_timesCome_44 rfl rfl ?_
      refine r_if_eq 80 49 dX7_timesCome_46 (by decide) rfl (fun q46 => ?_) (fun q46 => ?_)
      · refine r_iconst (v := 0) 81 dX7_timesCome_80 rfl (by decide) ?_
        refine r_istore (ls1 := [_, _, _, _, _, _]) 83 dX7_timesCome_81 rfl (by decide) rfl rfl ?_
        refine r_iinc (ls1 := [_, _, _, _, _, _]) 86 dX7_timesCome_83 rfl (by decide) rfl rfl (nI_1 i) rfl ?_
        refine r_goto 37 dX7_timesCome_86 (by decide) ?_
        first
        | exact ih (i + 1) true (by omega) (by rw [List.range_succ, List.all_append, ← hb, ne_f q46, List.all_cons, decide_eq_true q73]; rfl)
        | exact ih (i + 1) false (by omega) (by rw [List.range_succ, List.all_append, ← hb, bI_0.mp q46]; rfl)
        | exact ih (i + 1) false (by omega) (by rw [List.range_succ, List.all_append, List.all_cons, decide_eq_false q73, Bool.false_and, Bool.and_false])
      · refine r_aload_n 50 dX7_timesCome_49 rfl rfl rfl ?_
        refine r_getf 53 dX7_timesCome_50 rfl f_X7_7.r (by repeat (first | assumption | refine gs_eq ?_ | refine gs_ne (by omega) ?_ | exact is_of (by assumption) | refine gs_is ?_)) rfl ?_
        refine r_bipush (v := nI 59) 55 dX7_timesCome_53 rfl (by decide) ?_
        refine r_bipush (v := nI 6) 57 dX7_timesCome_55 rfl (by decide) ?_
        refine r_iload_n 58 dX7_timesCome_57 rfl rfl ?_
        refine r_imul 59 dX7_timesCome_58 rfl ?_
        rw [pk_mul]
        refine r_iadd 60 dX7_timesCome_59 rfl ?_
        rw [nI_add]
        refine r_iload 62 dX7_timesCome_60 rfl rfl ?_
        refine r_iadd 63 dX7_timesCome_62 rfl ?_
        rw [nI_add]
        refine r_iald 64 dX7_timesCome_63 rfl (59 + 6 * p + i) (by repeat (first | assumption | refine gs_eq ?_ | refine gs_ne (by omega) ?_ | exact is_of (by assumption) | refine gs_is ?_)) rfl (by omega) (by decide) ?_
        rw [e1]
        refine r_aload_n 65 dX7_timesCome_64 rfl rfl rfl ?_
        refine r_getf 68 dX7_timesCome_65 rfl f_X7_7.r (by repeat (first | assumption | refine gs_eq ?_ | refine gs_ne (by omega) ?_ | exact is_of (by assumption) | refine gs_is ?_)) rfl ?_
        refine r_iload_n 69 dX7_timesCome_68 rfl rfl ?_
        refine r_iload 71 dX7_timesCome_69 rfl rfl ?_
        refine r_iadd 72 dX7_timesCome_71 rfl ?_
        rw [nI_add]
        refine r_iald 73 dX7_timesCome_72 rfl (59 + 6 * (P.length - 1) + i) (by repeat (first | assumption | refine gs_eq ?_ | refine gs_ne (by omega) ?_ | exact is_of (by assumption) | refine gs_is ?_)) rfl (by omega) (by decide) ?_
        rw [e2]
        refine r_icmp_ne 80 76 dX7_timesCome_73 (by decide) rfl (fun q73 => ?_) (fun q73 => ?_)
        · refine r_iconst (v := 0) 81 dX7_timesCome_80 rfl (by decide) ?_
          refine r_istore (ls1 := [_, _, _, _, _, _]) 83 dX7_timesCome_81 rfl (by decide) rfl rfl ?_
          refine r_iinc (ls1 := [_, _, _, _, _, _]) 86 dX7_timesCome_83 rfl (by decide) rfl rfl (nI_1 i) rfl ?_
          refine r_goto 37 dX7_timesCome_86 (by decide) ?_
          first
          | exact ih (i + 1) true (by omega) (by rw [List.range_succ, List.all_append, ← hb, ne_f q46, List.all_cons, decide_eq_true q73]; rfl)
          | exact ih (i + 1) false (by omega) (by rw [List.range_succ, List.all_append, ← hb, bI_0.mp q46]; rfl)
          | exact ih (i + 1) false (by omega) (by rw [List.range_succ, List.all_append, List.all_cons, decide_eq_false q73, Bool.false_and, Bool.and_false])
        · refine r_iconst (v := 1) 77 dX7_timesCome_76 rfl (by decide) ?_
          refine r_goto 81 dX7_timesCome_77 (by decide) ?_
          refine r_istore (ls1 := [_, _, _, _, _, _]) 83 dX7_timesCome_81 rfl (by decide) rfl rfl ?_
          refine r_iinc (ls1 := [_, _, _, _, _, _]) 86 dX7_timesCome_83 rfl (by decide) rfl rfl (nI_1 i) rfl ?_
          refine r_goto 37 dX7_timesCome_86 (by decide) ?_
          first
          | exact ih (i + 1) true (by omega) (by rw [List.range_succ, List.all_append, ← hb, ne_f q46, List.all_cons, decide_eq_true q73]; rfl)
          | exact ih (i + 1) false (by omega) (by rw [List.range_succ, List.all_append, ← hb, bI_0.mp q46]; rfl)
          | exact ih (i + 1) false (by omega) (by rw [List.range_succ, List.all_append, List.all_cons, decide_eq_false q73, Bool.false_and, Bool.and_false])
  have loop : ∀ (m i : Nat) (c : Nat) (x4 x5 : Option Value), i + m = P.length → (c + (P.drop i).countP (fun p => encE p l) = P.countP (fun p => encE p l)) → (nl x4 = true) → (nl x5 = true) → Rn Γ XX7_timesCome (rmO 1 0 0) none (FinM (rI (nI (P.countP (fun p => encE p l))) w) 0 0) 0 0 w 20 [some (.ref 43), some (.int (nI (59 + 6 * (P.length - 1)))), some (.int (nI c)), some (.int (nI i)), x4, x5] [] := by
    intro m
    induction m with
    | zero =>
      intro i c x4 x5 hi hu e4 e5
      have h9 : i = P.length := by omega
      subst h9
      rw [List.drop_length] at hu
      refine r_iload_n 21 dX7_timesCome_20 rfl rfl ?_
      refine r_aload_n 22 dX7_timesCome_21 rfl rfl rfl ?_
      refine r_getf 25 dX7_timesCome_22 rfl f_X7_7.r (by repeat (first | assumption | refine gs_eq ?_ | refine gs_ne (by omega) ?_ | exact is_of (by assumption) | refine gs_is ?_)) rfl ?_
      refine r_bipush (v := 58) 27 dX7_timesCome_25 rfl (by decide) ?_
      refine r_iald 28 dX7_timesCome_27 rfl (58) (by repeat (first | assumption | refine gs_eq ?_ | refine gs_ne (by omega) ?_ | exact is_of (by assumption) | refine gs_is ?_)) rfl (by decide) (by decide) ?_
      rw [a58]
      refine r_icmp_ge 108 31 dX7_timesCome_28 (by decide) rfl (fun q28 => ?_) (fun q28 => absurd q28 (fun z => z (nI_le (by omega) (by omega))))
      refine r_iload_n 109 dX7_timesCome_108 rfl rfl ?_
      refine r_iret dX7_timesCome_109 rfl (by decide) (by decide) ?_
      exact ⟨by rw [← hu]; rfl, rfl⟩
    | succ m ih =>
      intro i c x4 x5 hi hu e4 e5
      obtain ⟨q, hq, hd⟩ := drop_c (l := P) (i := i) (by omega)
      rw [hd, List.countP_cons] at hu
      refine r_iload_n 21 dX7_timesCome_20 rfl rfl ?_
      refine r_aload_n 22 dX7_timesCome_21 rfl rfl rfl ?_
      refine r_getf 25 dX7_timesCome_22 rfl f_X7_7.r (by repeat (first | assumption | refine gs_eq ?_ | refine gs_ne (by omega) ?_ | exact is_of (by assumption) | refine gs_is ?_)) rfl ?_
      refine r_bipush (v := 58) 27 dX7_timesCome_25 rfl (by decide) ?_
      refine r_iald 28 dX7_timesCome_27 rfl (58) (by repeat (first | assumption | refine gs_eq ?_ | refine gs_ne (by omega) ?_ | exact is_of (by assumption) | refine gs_is ?_)) rfl (by decide) (by decide) ?_
      rw [a58]
      refine r_icmp_ge 108 31 dX7_timesCome_28 (by decide) rfl (fun q28 => absurd q28 (nI_ge (by omega) (by omega))) (fun q28 => ?_)
      refine r_iconst (v := 1) 32 dX7_timesCome_31 rfl (by decide) ?_
      refine r_istore (ls1 := [_, _, _, _, _, _]) 34 dX7_timesCome_32 rfl (by decide) rfl rfl ?_
      refine r_iconst (v := nI 0) 35 dX7_timesCome_34 rfl (by decide) ?_
      refine r_istore (ls1 := [_, _, _, _, _, _]) 37 dX7_timesCome_35 rfl (by decide) rfl rfl ?_
      exact inner i c q hq (fun x4 x5 e4 e5 => ih (i + 1) _ x4 x5 (by omega) (by rw [← hu]; omega) e4 e5) 6 0 true (by omega) rfl
  refine Cl.of (ls := [some (.ref 43), none, none, none, none, none]) rfl (by decide +kernel) (fun h => by cases h) (Nat.le_of_ble_eq_true rfl) rfl ?_
  refine r_bipush (v := nI 59) 2 dX7_timesCome_0 rfl (by decide) ?_
  refine r_bipush (v := nI 6) 4 dX7_timesCome_2 rfl (by decide) ?_
  refine r_aload_n 5 dX7_timesCome_4 rfl rfl rfl ?_
  refine r_getf 8 dX7_timesCome_5 rfl f_X7_7.r (by repeat (first | assumption | refine gs_eq ?_ | refine gs_ne (by omega) ?_ | exact is_of (by assumption) | refine gs_is ?_)) rfl ?_
  refine r_bipush (v := 58) 10 dX7_timesCome_8 rfl (by decide) ?_
  refine r_iald 11 dX7_timesCome_10 rfl (58) (by repeat (first | assumption | refine gs_eq ?_ | refine gs_ne (by omega) ?_ | exact is_of (by assumption) | refine gs_is ?_)) rfl (by decide) (by decide) ?_
  rw [a58]
  refine r_iconst (v := nI 1) 12 dX7_timesCome_11 rfl (by decide) ?_
  refine r_isub 13 dX7_timesCome_12 rfl ?_
  rw [pk_sub hP1]
  refine r_imul 14 dX7_timesCome_13 rfl ?_
  rw [pk_mul]
  refine r_iadd 15 dX7_timesCome_14 rfl ?_
  rw [nI_add]
  refine r_istore_n (ls1 := [_, _, _, _, _, _]) 16 dX7_timesCome_15 rfl (by decide) rfl rfl ?_
  refine r_iconst (v := nI 0) 17 dX7_timesCome_16 rfl (by decide) ?_
  refine r_istore_n (ls1 := [_, _, _, _, _, _]) 18 dX7_timesCome_17 rfl (by decide) rfl rfl ?_
  refine r_iconst (v := nI 0) 19 dX7_timesCome_18 rfl (by decide) ?_
  refine r_istore_n (ls1 := [_, _, _, _, _, _]) 20 dX7_timesCome_19 rfl (by decide) rfl rfl ?_
  exact loop P.length 0 0 _ _ (by omega) (by rw [Nat.zero_add]; rfl) rfl rfl

set_option maxRecDepth 100000 in
theorem tX7_forgetPositions {Γ : CT} {w : PW} {pm ty rm sp wr : Int32} {z : Nat → Int32} {f : Nat → Int32} {mv oc cs : Int32} {cl : Nat → Int32} {mk jp : Int32} {lo : Nat → Int32} {qt : Int32} {P : List P3} (ho : w[43]? = some (oM pm ty rm sp wr)) (hz : w[44]? = some (aI 431 z)) (hA : zA z f mv oc cs cl mk jp lo qt P) : Cl Γ yX7_forgetPositions XX7_forgetPositions 0 0 0 [.ref 43] w (rN (fun w1 => Fr w w1 (fun q => q = 44) ∧ ∃ y, w1[44]? = some (aI 431 y) ∧ zA y f mv oc cs cl mk jp lo qt [])) := by
  obtain ⟨h0, a48, a49, a50, a51, a52, a53, a54, a55, a56, a57, a58, hp⟩ := id hA
  have loop : ∀ (m i : Nat) (u : PW) (y : Nat → Int32), i + m = 372 → (Fr w u (fun q => q = 44)) → (u[44]? = some (aI 431 y)) → (∀ j, j < 59 → y j = z j) → Rn Γ XX7_forgetPositions (rmO 0 0 0) none (FinM (rN (fun w1 => Fr w w1 (fun q => q = 44) ∧ ∃ y, w1[44]? = some (aI 431 y) ∧ zA y f mv oc cs cl mk jp lo qt [])) 0 0) 0 0 u 3 [some (.ref 43), some (.int (nI (59 + i)))] [] := by
    intro m
    induction m with
    | zero =>
      intro i u y hi hF hy hl
      have oU := (hF.2 43 (by decide)).trans ho
      refine r_iload_n 4 dX7_forgetPositions_3 rfl rfl ?_
      refine r_sipush (v := nI 431) 7 dX7_forgetPositions_4 rfl (by decide) ?_
      refine r_icmp_ge 23 10 dX7_forgetPositions_7 (by decide) rfl (fun q7 => ?_) (fun q7 => absurd q7 (fun z => z (nI_le (by omega) (by omega))))
      refine r_aload_n 24 dX7_forgetPositions_23 rfl rfl rfl ?_
      refine r_getf 27 dX7_forgetPositions_24 rfl f_X7_7.r (by repeat (first | assumption | refine gs_eq ?_ | refine gs_ne (by omega) ?_ | exact is_of (by assumption) | refine gs_is ?_)) rfl ?_
      refine r_bipush (v := 58) 29 dX7_forgetPositions_27 rfl (by decide) ?_
      refine r_iconst (v := 0) 30 dX7_forgetPositions_29 rfl (by decide) ?_
      refine r_iast 31 dX7_forgetPositions_30 rfl (58) (by repeat (first | assumption | refine gs_eq ?_ | refine gs_ne (by omega) ?_ | exact is_of (by assumption) | refine gs_is ?_)) rfl (by decide) (by decide) ?_
      refine r_vret dX7_forgetPositions_31 rfl (by decide) (by decide) ?_
      have hx : ∀ j, j < 58 → upd y 58 0 j = z j := fun j hj => (pk_un (by omega)).trans (hl j (by omega))
      exact ⟨rfl, Fr.tr hF (Fr.st rfl), _, (by repeat (first | assumption | refine gs_eq ?_ | refine gs_ne (by omega) ?_ | exact is_of (by assumption) | refine gs_is ?_)), fun s hs => (hx s (by omega)).trans (h0 s hs), (hx _ (by decide)).trans a48, (hx _ (by decide)).trans a49, (hx _ (by decide)).trans a50, (hx _ (by decide)).trans a51, (hx _ (by decide)).trans a52, (hx _ (by decide)).trans a53, (hx _ (by decide)).trans a54, (hx _ (by decide)).trans a55, (hx _ (by decide)).trans a56, (hx _ (by decide)).trans a57, pk_us, fun i p hi => by simp at hi⟩
    | succ m ih =>
      intro i u y hi hF hy hl
      have oU := (hF.2 43 (by decide)).trans ho
      refine r_iload_n 4 dX7_forgetPositions_3 rfl rfl ?_
      refine r_sipush (v := nI 431) 7 dX7_forgetPositions_4 rfl (by decide) ?_
      refine r_icmp_ge 23 10 dX7_forgetPositions_7 (by decide) rfl (fun q7 => absurd q7 (nI_ge (by omega) (by omega))) (fun q7 => ?_)
      refine r_aload_n 11 dX7_forgetPositions_10 rfl rfl rfl ?_
      refine r_getf 14 dX7_forgetPositions_11 rfl f_X7_7.r (by repeat (first | assumption | refine gs_eq ?_ | refine gs_ne (by omega) ?_ | exact is_of (by assumption) | refine gs_is ?_)) rfl ?_
      refine r_iload_n 15 dX7_forgetPositions_14 rfl rfl ?_
      refine r_iconst (v := 0) 16 dX7_forgetPositions_15 rfl (by decide) ?_
      refine r_iast 17 dX7_forgetPositions_16 rfl (59 + i) (by repeat (first | assumption | refine gs_eq ?_ | refine gs_ne (by omega) ?_ | exact is_of (by assumption) | refine gs_is ?_)) rfl (by omega) (by decide) ?_
      refine r_iinc (ls1 := [_, _]) 20 dX7_forgetPositions_17 rfl (by decide) rfl rfl (nI_1 (59 + i)) rfl ?_
      refine r_goto 3 dX7_forgetPositions_20 (by decide) ?_
      exact ih (i + 1) _ _ (by omega) (Fr.tr hF (Fr.st rfl)) (by repeat (first | assumption | refine gs_eq ?_ | refine gs_ne (by omega) ?_ | exact is_of (by assumption) | refine gs_is ?_)) (fun j hj => (pk_un (by omega)).trans (hl j hj))
  refine Cl.of (ls := [some (.ref 43), none]) rfl (by decide +kernel) (fun h => by cases h) (Nat.le_of_ble_eq_true rfl) rfl ?_
  refine r_bipush (v := nI 59) 2 dX7_forgetPositions_0 rfl (by decide) ?_
  refine r_istore_n (ls1 := [_, _]) 3 dX7_forgetPositions_2 rfl (by decide) rfl rfl ?_
  exact loop 372 0 w z (by omega) Fr.rf hz (fun _ _ => rfl)

