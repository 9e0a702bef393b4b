/-! ===== what can be jumped over; whether there is a hop ===== -/
theorem tX0_pAt {Γ : CT} {w : PW} {b : Nat} {f n : Nat → Int32} {mv jp : Int32} (hb : isBd w b f n mv jp) {j : Nat} (hj : j < 48) : Cl Γ yX0_pieceAt XX0_pieceAt 0 0 0 [.ref b, .int (nI j)] w (rI (f j) w) := by
  rw [← pAt_nI (f := f) hj]
  exact tX0_pieceAt hb
theorem tX6_sq {Γ : CT} {w : PW} {s way k : Nat} (hs : s < 48) (hw : way < 4) (hk : k < 24) : Cl Γ yX6_squareAfter XX6_squareAfter 1 0 0 [.int (nI s), .int (nI way), .int (nI k)] w (rI (nI (nk s way k)) w) := by
  rw [← sqI_nk hs hw hk]
  exact tX6_squareAfter
theorem tX6_sq1 {Γ : CT} {w : PW} {s way : Nat} (hs : s < 48) (hw : way < 4) : Cl Γ yX6_squareAfter XX6_squareAfter 1 0 0 [.int (nI s), .int (nI way), .int (nI 1)] w (rI (nI (nx s way)) w) := tX6_sq (k := 1) hs hw (by decide)
def fe (f : Nat → Int32) (s way : Nat) : Nat → Nat → Nat
  | 0, k => k
  | n + 1, k => if f (nk s way k) = -6 then fe f s way n (k + 1) else k
def preyOk (f : Nat → Int32) (s way k : Nat) : Bool := decide (sdO (f (nk s way k)) = 1 - sdO (f s)) && decide (f (nk s way (k + 1)) = -6)
def feK (f : Nat → Int32) (s way : Nat) : Nat := fe f s way (if isKg (f s) = true then 21 else 0) 1
def prey (f : Nat → Int32) (s way : Nat) : Nat := if mayG (f s) (nI way) = true then (if preyOk f s way (feK f s way) = true then feK f s way else 0) else 0
theorem fe_le (f : Nat → Int32) (s way : Nat) : ∀ n k, k ≤ fe f s way n k ∧ fe f s way n k ≤ k + n
  | 0, k => ⟨Nat.le_refl _, Nat.le_refl _⟩
  | n + 1, k => by
    unfold fe
    split
    · have := fe_le f s way n (k + 1)
      omega
    · omega
theorem feK_le (f : Nat → Int32) (s way : Nat) : 1 ≤ feK f s way ∧ feK f s way ≤ 22 := by
  have := fe_le f s way (if isKg (f s) = true then 21 else 0) 1
  unfold feK
  split at this <;> split <;> first | omega | (simp_all; done) | (simp_all; omega)
theorem prey_le (f : Nat → Int32) (s way : Nat) : prey f s way ≤ 22 := by
  unfold prey
  have := feK_le f s way
  split
  · split <;> omega
  · omega
theorem prey_no {f : Nat → Int32} {s way : Nat} (h : mayG (f s) (nI way) = false) : prey f s way = 0 := by
  unfold prey
  rw [h]
  rfl
theorem prey_yes {f : Nat → Int32} {s way : Nat} (h : mayG (f s) (nI way) = true) (h1 : sdO (f (nk s way (feK f s way))) = 1 - sdO (f s)) (h2 : f (nk s way (feK f s way + 1)) = -6) : prey f s way = feK f s way := by
  unfold prey
  rw [if_pos h, if_pos]
  unfold preyOk
  rw [decide_eq_true h1, decide_eq_true h2]
  rfl
theorem prey_n1 {f : Nat → Int32} {s way : Nat} (h1 : ¬ sdO (f (nk s way (feK f s way))) = 1 - sdO (f s)) : prey f s way = 0 := by
  unfold prey
  split
  · rw [if_neg]
    unfold preyOk
    rw [decide_eq_false h1]
    simp
  · rfl
theorem prey_n2 {f : Nat → Int32} {s way : Nat} (h1 : ¬ f (nk s way (feK f s way + 1)) = -6) : prey f s way = 0 := by
  unfold prey
  split
  · rw [if_neg]
    unfold preyOk
    rw [decide_eq_false h1]
    simp
  · rfl
theorem any_t {n i : Nat} {p : Nat → Bool} (hi : i < n) (h : p i = true) : (List.range n).any p = true := List.any_eq_true.mpr ⟨i, List.mem_range.mpr hi, h⟩
theorem any_s {i : Nat} {p : Nat → Bool} (h : (List.range i).any p = false) (h1 : p i = false) : (List.range (i + 1)).any p = false := by
  rw [List.range_succ, List.any_append, h, List.any_cons, h1]
  rfl
def canJ (f : Nat → Int32) (s : Nat) : Bool := (List.range 4).any (fun way => decide (0 < prey f s way))
def hasW (f : Nat → Int32) (s way : Nat) : Bool := (mayG (f s) (nI way) && decide (f (nx s way) = -6)) || decide (0 < prey f s way)
def hasH (f : Nat → Int32) (mv : Int32) : Bool := (List.range 48).any (fun s => decide (sdO (f s) = mv) && (List.range 4).any (hasW f s))
theorem ne_f {b : Bool} (h : ¬ bI b = 0) : b = true := by cases b <;> simp [bI] at h ⊢
theorem eq_f {b : Bool} (h : bI b = 0) : ¬ b = true := by cases b <;> simp [bI] at h ⊢
theorem pos_n {n : Nat} (h : ¬ nI n ≤ 0) : 0 < n := by
  rcases Nat.eq_zero_or_pos n with e | e
  · subst e; exact absurd (by decide) h
  · exact e
theorem npos_n {n : Nat} (hn : n < 2147483648) (h : nI n ≤ 0) : ¬ 0 < n := fun z => nI_nle z hn h
set_option maxRecDepth 100000 in
theorem tX0_stepsToPrey {Γ : CT} {w : PW} {b : Nat} {f n : Nat → Int32} {mv jp : Int32} {s way : Nat} (hb : isBd w b f n mv jp) (hs : s < 48) (hw : way < 4) : Cl Γ yX0_stepsToPrey XX0_stepsToPrey 2 0 0 [.ref b, .int (nI s), .int (nI way)] w (rI (nI (prey f s way)) w) := by
  obtain ⟨h0, h1, h2⟩ := id hb
  have tail : ∀ (F k : Nat), k = feK f s way → mayG (f s) (nI way) = true → Rn Γ XX0_stepsToPrey (rmO 2 0 0) none (FinM (rI (nI (prey f s way)) w) 0 0) 0 0 w 75 [some (.ref b), some (.int (nI s)), some (.int (nI way)), some (.int (f s)), some (.int (nI F)), some (.int (nI k)), some (.int (nI (nk s way k))), none] [] := by
    intro F k hk hm
    have hk2 := feK_le f s way
    subst hk
    refine r_aload_n 76 dX0_stepsToPrey_75 rfl rfl rfl ?_
    refine r_iload 78 dX0_stepsToPrey_76 rfl rfl ?_
    refine r_callV0 81 dX0_stepsToPrey_78 rfl (tX0_pAt hb (nk_lt hs)) l_X0_57 mX0_pieceAt rfl (by repeat (first | assumption | refine gs_eq ?_ | refine gs_ne (by omega) ?_ | exact is_of (by assumption) | refine gs_is ?_)) rfl (by decide) (Nat.le_of_ble_eq_true rfl) (by decide) (qI ?_)
    refine r_callSN0 84 dX0_stepsToPrey_81 rfl (tX6_sideOf) l_X0_72 mX6_sideOf rfl (by decide) (Nat.le_of_ble_eq_true rfl) (by decide) (qI ?_)
    refine r_iconst (v := 1) 85 dX0_stepsToPrey_84 rfl (by decide) ?_
    refine r_iload_n 86 dX0_stepsToPrey_85 rfl rfl ?_
    refine r_callSN0 89 dX0_stepsToPrey_86 rfl (tX6_sideOf) l_X0_72 mX6_sideOf rfl (by decide) (Nat.le_of_ble_eq_true rfl) (by decide) (qI ?_)
    refine r_isub 90 dX0_stepsToPrey_89 rfl ?_
    refine r_icmp_ne 97 93 dX0_stepsToPrey_90 (by decide) rfl (fun q90 => ?_) (fun q90 => ?_)
    · refine r_iconst (v := 0) 98 dX0_stepsToPrey_97 rfl (by decide) ?_
      refine r_istore (ls1 := [_, _, _, _, _, _, _, _]) 100 dX0_stepsToPrey_98 rfl (by decide) rfl rfl ?_
      refine r_iload 102 dX0_stepsToPrey_100 rfl rfl ?_
      refine r_if_eq 126 105 dX0_stepsToPrey_102 (by decide) rfl (fun q102 => ?_) (fun q102 => absurd q102 (by decide))
      refine r_iconst (v := 0) 127 dX0_stepsToPrey_126 rfl (by decide) ?_
      refine r_iret dX0_stepsToPrey_127 rfl (by decide) (by decide) ?_
      first | exact absurd q102 (by decide) | exact ⟨by rw [prey_yes hm q90 q118], rfl⟩ | exact ⟨by rw [prey_n1 q90]; rfl, rfl⟩ | exact ⟨by rw [prey_n2 (f := f) q118]; rfl, rfl⟩
    · refine r_iconst (v := 1) 94 dX0_stepsToPrey_93 rfl (by decide) ?_
      refine r_goto 98 dX0_stepsToPrey_94 (by decide) ?_
      refine r_istore (ls1 := [_, _, _, _, _, _, _, _]) 100 dX0_stepsToPrey_98 rfl (by decide) rfl rfl ?_
      refine r_iload 102 dX0_stepsToPrey_100 rfl rfl ?_
      refine r_if_eq 126 105 dX0_stepsToPrey_102 (by decide) rfl (fun q102 => absurd q102 (by decide)) (fun q102 => ?_)
      refine r_aload_n 106 dX0_stepsToPrey_105 rfl rfl rfl ?_
      refine r_iload 108 dX0_stepsToPrey_106 rfl rfl ?_
      refine r_iload_n 109 dX0_stepsToPrey_108 rfl rfl ?_
      refine r_iconst (v := nI 1) 110 dX0_stepsToPrey_109 rfl (by decide) ?_
      refine r_callSN0 113 dX0_stepsToPrey_110 rfl (tX6_sq1 (nk_lt hs) hw) l_X0_68 mX6_squareAfter rfl (by decide) (Nat.le_of_ble_eq_true rfl) (by decide) (qI ?_)
      refine r_callV0 116 dX0_stepsToPrey_113 rfl (tX0_pAt hb (nx_lt _ _)) l_X0_57 mX0_pieceAt rfl (by repeat (first | assumption | refine gs_eq ?_ | refine gs_ne (by omega) ?_ | exact is_of (by assumption) | refine gs_is ?_)) rfl (by decide) (Nat.le_of_ble_eq_true rfl) (by decide) (qI ?_)
      refine r_bipush (v := (-6)) 118 dX0_stepsToPrey_116 rfl (by decide) ?_
      refine r_icmp_ne 126 121 dX0_stepsToPrey_118 (by decide) rfl (fun q118 => ?_) (fun q118 => ?_)
      · refine r_iconst (v := 0) 127 dX0_stepsToPrey_126 rfl (by decide) ?_
        refine r_iret dX0_stepsToPrey_127 rfl (by decide) (by decide) ?_
        first | exact absurd q102 (by decide) | exact ⟨by rw [prey_yes hm q90 q118], rfl⟩ | exact ⟨by rw [prey_n1 q90]; rfl, rfl⟩ | exact ⟨by rw [prey_n2 (f := f) q118]; rfl, rfl⟩
      · refine r_iload 123 dX0_stepsToPrey_121 rfl rfl ?_
        refine r_goto 127 dX0_stepsToPrey_123 (by decide) ?_
        refine r_iret dX0_stepsToPrey_127 rfl (by decide) (by decide) ?_
        first | exact absurd q102 (by decide) | exact ⟨by rw [prey_yes hm q90 q118], rfl⟩ | exact ⟨by rw [prey_n1 q90]; rfl, rfl⟩ | exact ⟨by rw [prey_n2 (f := f) q118]; rfl, rfl⟩
  have loop : ∀ (F : Nat), F < 24 → mayG (f s) (nI way) = true → ∀ (m k : Nat), k + m = F → fe f s way m k = feK f s way → Rn Γ XX0_stepsToPrey (rmO 2 0 0) none (FinM (rI (nI (prey f s way)) w) 0 0) 0 0 w 42 [some (.ref b), some (.int (nI s)), some (.int (nI way)), some (.int (f s)), some (.int (nI F)), some (.int (nI k)), some (.int (nI (nk s way k))), none] [] := by
    intro F hF hm m
    induction m with
    | zero =>
      intro k hk hfe
      refine r_iload 44 dX0_stepsToPrey_42 rfl rfl ?_
      refine r_iload 46 dX0_stepsToPrey_44 rfl rfl ?_
      refine r_icmp_ge 75 49 dX0_stepsToPrey_46 (by decide) rfl (fun q46 => ?_) (fun q46 => absurd q46 (fun z => z (nI_le (by omega) (by omega))))
      exact tail F k hfe hm
    | succ m ih =>
      intro k hk hfe
      refine r_iload 44 dX0_stepsToPrey_42 rfl rfl ?_
      refine r_iload 46 dX0_stepsToPrey_44 rfl rfl ?_
      refine r_icmp_ge 75 49 dX0_stepsToPrey_46 (by decide) rfl (fun q46 => absurd q46 (nI_ge (by omega) (by omega))) (fun q46 => ?_)
      refine r_aload_n 50 dX0_stepsToPrey_49 rfl rfl rfl ?_
      refine r_iload 52 dX0_stepsToPrey_50 rfl rfl ?_
      refine r_callV0 55 dX0_stepsToPrey_52 rfl (tX0_pAt hb (nk_lt hs)) l_X0_57 mX0_pieceAt rfl (by repeat (first | assumption | refine gs_eq ?_ | refine gs_ne (by omega) ?_ | exact is_of (by assumption) | refine gs_is ?_)) rfl (by decide) (Nat.le_of_ble_eq_true rfl) (by decide) (qI ?_)
      refine r_bipush (v := (-6)) 57 dX0_stepsToPrey_55 rfl (by decide) ?_
      refine r_icmp_ne 75 60 dX0_stepsToPrey_57 (by decide) rfl (fun q57 => ?_) (fun q57 => ?_)
      · exact tail F k (by rw [← hfe, fe, if_neg q57]) hm
      · refine r_iload 62 dX0_stepsToPrey_60 rfl rfl ?_
        refine r_iload_n 63 dX0_stepsToPrey_62 rfl rfl ?_
        refine r_iconst (v := nI 1) 64 dX0_stepsToPrey_63 rfl (by decide) ?_
        refine r_callSN0 67 dX0_stepsToPrey_64 rfl (tX6_sq1 (nk_lt hs) hw) l_X0_68 mX6_squareAfter rfl (by decide) (Nat.le_of_ble_eq_true rfl) (by decide) (qI ?_)
        refine r_istore (ls1 := [_, _, _, _, _, _, _, _]) 69 dX0_stepsToPrey_67 rfl (by decide) rfl rfl ?_
        refine r_iinc (ls1 := [_, _, _, _, _, _, _, _]) 72 dX0_stepsToPrey_69 rfl (by decide) rfl rfl (nI_1 k) rfl ?_
        refine r_goto 42 dX0_stepsToPrey_72 (by decide) ?_
        exact ih (k + 1) (by omega) (by rw [← hfe, fe, if_pos q57])
  refine Cl.of (ls := [some (.ref b), some (.int (nI s)), some (.int (nI way)), none, none, none, none, none]) rfl (by decide +kernel) (fun h => by cases h) (Nat.le_of_ble_eq_true rfl) rfl ?_
  refine r_aload_n 1 dX0_stepsToPrey_0 rfl rfl rfl ?_
  refine r_iload_n 2 dX0_stepsToPrey_1 rfl rfl ?_
  refine r_callV0 5 dX0_stepsToPrey_2 rfl (tX0_pAt hb hs) l_X0_57 mX0_pieceAt rfl (by repeat (first | assumption | refine gs_eq ?_ | refine gs_ne (by omega) ?_ | exact is_of (by assumption) | refine gs_is ?_)) rfl (by decide) (Nat.le_of_ble_eq_true rfl) (by decide) (qI ?_)
  refine r_istore_n (ls1 := [_, _, _, _, _, _, _, _]) 6 dX0_stepsToPrey_5 rfl (by decide) rfl rfl ?_
  refine r_iload_n 7 dX0_stepsToPrey_6 rfl rfl ?_
  refine r_iload_n 8 dX0_stepsToPrey_7 rfl rfl ?_
  refine r_callSN0 11 dX0_stepsToPrey_8 rfl (tX6_mayGo) l_X0_60 mX6_mayGo rfl (by decide) (Nat.le_of_ble_eq_true rfl) (by decide) (qI ?_)
  refine r_if_ne 16 14 dX0_stepsToPrey_11 (by decide) rfl (fun q11 => ?_) (fun q11 => ?_)
  · refine r_iload_n 17 dX0_stepsToPrey_16 rfl rfl ?_
    refine r_callSN0 20 dX0_stepsToPrey_17 rfl (tX6_isKing) l_X0_64 mX6_isKing rfl (by decide) (Nat.le_of_ble_eq_true rfl) (by decide) (qI ?_)
    refine r_if_eq 28 23 dX0_stepsToPrey_20 (by decide) rfl (fun q20 => ?_) (fun q20 => ?_)
    · refine r_iconst (v := nI 1) 29 dX0_stepsToPrey_28 rfl (by decide) ?_
      refine r_istore (ls1 := [_, _, _, _, _, _, _, _]) 31 dX0_stepsToPrey_29 rfl (by decide) rfl rfl ?_
      refine r_iconst (v := nI 1) 32 dX0_stepsToPrey_31 rfl (by decide) ?_
      refine r_istore (ls1 := [_, _, _, _, _, _, _, _]) 34 dX0_stepsToPrey_32 rfl (by decide) rfl rfl ?_
      refine r_iload_n 35 dX0_stepsToPrey_34 rfl rfl ?_
      refine r_iload_n 36 dX0_stepsToPrey_35 rfl rfl ?_
      refine r_iconst (v := nI 1) 37 dX0_stepsToPrey_36 rfl (by decide) ?_
      refine r_callSN0 40 dX0_stepsToPrey_37 rfl (tX6_sq1 hs hw) l_X0_68 mX6_squareAfter rfl (by decide) (Nat.le_of_ble_eq_true rfl) (by decide) (qI ?_)
      refine r_istore (ls1 := [_, _, _, _, _, _, _, _]) 42 dX0_stepsToPrey_40 rfl (by decide) rfl rfl ?_
      first | exact loop 22 (by decide) (ne_f q11) 21 1 rfl (by rw [feK, if_pos (ne_f q20)]) | exact loop 1 (by decide) (ne_f q11) 0 1 rfl (by rw [feK, if_neg (eq_f q20)])
    · refine r_bipush (v := nI 22) 25 dX0_stepsToPrey_23 rfl (by decide) ?_
      refine r_goto 29 dX0_stepsToPrey_25 (by decide) ?_
      refine r_istore (ls1 := [_, _, _, _, _, _, _, _]) 31 dX0_stepsToPrey_29 rfl (by decide) rfl rfl ?_
      refine r_iconst (v := nI 1) 32 dX0_stepsToPrey_31 rfl (by decide) ?_
      refine r_istore (ls1 := [_, _, _, _, _, _, _, _]) 34 dX0_stepsToPrey_32 rfl (by decide) rfl rfl ?_
      refine r_iload_n 35 dX0_stepsToPrey_34 rfl rfl ?_
      refine r_iload_n 36 dX0_stepsToPrey_35 rfl rfl ?_
      refine r_iconst (v := nI 1) 37 dX0_stepsToPrey_36 rfl (by decide) ?_
      refine r_callSN0 40 dX0_stepsToPrey_37 rfl (tX6_sq1 hs hw) l_X0_68 mX6_squareAfter rfl (by decide) (Nat.le_of_ble_eq_true rfl) (by decide) (qI ?_)
      refine r_istore (ls1 := [_, _, _, _, _, _, _, _]) 42 dX0_stepsToPrey_40 rfl (by decide) rfl rfl ?_
      first | exact loop 22 (by decide) (ne_f q11) 21 1 rfl (by rw [feK, if_pos (ne_f q20)]) | exact loop 1 (by decide) (ne_f q11) 0 1 rfl (by rw [feK, if_neg (eq_f q20)])
  · refine r_iconst (v := 0) 15 dX0_stepsToPrey_14 rfl (by decide) ?_
    refine r_iret dX0_stepsToPrey_15 rfl (by decide) (by decide) ?_
    exact ⟨by rw [prey_no (bI_0.mp q11)]; rfl, rfl⟩

set_option maxRecDepth 100000 in
theorem tX0_canJump {Γ : CT} {w : PW} {b : Nat} {f n : Nat → Int32} {mv jp : Int32} {s : Nat} (hb : isBd w b f n mv jp) (hs : s < 48) : Cl Γ yX0_canJump XX0_canJump 3 0 0 [.ref b, .int (nI s)] w (rI (bI (canJ f s)) w) := by
  obtain ⟨h0, h1, h2⟩ := id hb
  have loop : ∀ (m i : Nat) , i + m = 4 → ((List.range i).any (fun way => decide (0 < prey f s way)) = false) → Rn Γ XX0_canJump (rmO 3 0 0) none (FinM (rI (bI (canJ f s)) w) 0 0) 0 0 w 2 [some (.ref b), some (.int (nI s)), some (.int (nI i))] [] := by
    intro m
    induction m with
    | zero =>
      intro i  hi hu
      have h4 : i = 4 := by omega
      subst h4
      refine r_iload_n 3 dX0_canJump_2 rfl rfl ?_
      refine r_iconst (v := nI 4) 4 dX0_canJump_3 rfl (by decide) ?_
      refine r_icmp_ge 24 7 dX0_canJump_4 (by decide) rfl (fun q4 => ?_) (fun q4 => absurd q4 (fun z => z (nI_le (by omega) (by omega))))
      refine r_iconst (v := 0) 25 dX0_canJump_24 rfl (by decide) ?_
      refine r_bret dX0_canJump_25 rfl (by first | exact Or.inl rfl | exact Or.inr rfl) (by decide) (by decide) ?_
      exact ⟨by rw [canJ, hu]; rfl, rfl⟩
    | succ m ih =>
      intro i  hi hu
      refine r_iload_n 3 dX0_canJump_2 rfl rfl ?_
      refine r_iconst (v := nI 4) 4 dX0_canJump_3 rfl (by decide) ?_
      refine r_icmp_ge 24 7 dX0_canJump_4 (by decide) rfl (fun q4 => absurd q4 (nI_ge (by omega) (by omega))) (fun q4 => ?_)
      refine r_aload_n 8 dX0_canJump_7 rfl rfl rfl ?_
      refine r_iload_n 9 dX0_canJump_8 rfl rfl ?_
      refine r_iload_n 10 dX0_canJump_9 rfl rfl ?_
      refine r_callV0 13 dX0_canJump_10 rfl (tX0_stepsToPrey hb hs (by omega)) l_X0_75 mX0_stepsToPrey rfl (by repeat (first | assumption | refine gs_eq ?_ | refine gs_ne (by omega) ?_ | exact is_of (by assumption) | refine gs_is ?_)) rfl (by decide) (Nat.le_of_ble_eq_true rfl) (by decide) (qI ?_)
      refine r_if_le 18 16 dX0_canJump_13 (by decide) rfl (fun q13 => ?_) (fun q13 => ?_)
      · refine r_iinc (ls1 := [_, _, _]) 21 dX0_canJump_18 rfl (by decide) rfl rfl (nI_1 i) rfl ?_
        refine r_goto 2 dX0_canJump_21 (by decide) ?_
        exact ih (i + 1) (by omega) (any_s hu (decide_eq_false (npos_n (Nat.lt_of_le_of_lt (prey_le f s i) (by decide)) q13)))
      · refine r_iconst (v := 1) 17 dX0_canJump_16 rfl (by decide) ?_
        refine r_bret dX0_canJump_17 rfl (by first | exact Or.inl rfl | exact Or.inr rfl) (by decide) (by decide) ?_
        exact ⟨by rw [canJ, any_t (i := i) (by omega) (decide_eq_true (pos_n q13))]; rfl, rfl⟩
  refine Cl.of (ls := [some (.ref b), some (.int (nI s)), none]) rfl (by decide +kernel) (fun h => by cases h) (Nat.le_of_ble_eq_true rfl) rfl ?_
  refine r_iconst (v := nI 0) 1 dX0_canJump_0 rfl (by decide) ?_
  refine r_istore_n (ls1 := [_, _, _]) 2 dX0_canJump_1 rfl (by decide) rfl rfl ?_
  exact loop 4 0 rfl rfl

set_option maxRecDepth 100000 in
theorem tX0_hasHop {Γ : CT} {w : PW} {b : Nat} {f n : Nat → Int32} {mv jp : Int32} (hb : isBd w b f n mv jp) : Cl Γ yX0_hasHop XX0_hasHop 3 0 0 [.ref b] w (rI (bI (hasH f mv)) w) := by
  obtain ⟨h0, h1, h2⟩ := id hb
  have inner : ∀ (s : Nat), s < 48 → sdO (f s) = mv → ((List.range 4).any (hasW f s) = false → ∀ x2 x3 x4, nl x2 = true → nl x3 = true → Rn Γ XX0_hasHop (rmO 3 0 0) none (FinM (rI (bI (hasH f mv)) w) 0 0) 0 0 w 87 [some (.ref b), some (.int (nI s)), x2, x3, x4] []) → ∀ (m i : Nat) (x4 : Option Value), i + m = 4 → (List.range i).any (hasW f s) = false → Rn Γ XX0_hasHop (rmO 3 0 0) none (FinM (rI (bI (hasH f mv)) w) 0 0) 0 0 w 30 [some (.ref b), some (.int (nI s)), some (.int (f s)), some (.int (nI i)), x4] [] := by
    intro s hs hsd kk m
    induction m with
    | zero =>
      intro i x4 hi hu
      have h4 : i = 4 := by omega
      subst h4
      refine r_iload_n 31 dX0_hasHop_30 rfl rfl ?_
      refine r_iconst (v := nI 4) 32 dX0_hasHop_31 rfl (by decide) ?_
      refine r_icmp_ge 87 35 dX0_hasHop_32 (by decide) rfl (fun q32 => ?_) (fun q32 => absurd q32 (fun z => z (nI_le (by omega) (by omega))))
      exact kk hu _ _ _ rfl rfl
    | succ m ih =>
      intro i x4 hi hu
      have ret1 : hasW f s i = true → hasH f mv = true := fun hz => any_t hs (by rw [decide_eq_true hsd, any_t (i := i) (by omega) hz]; rfl)
      refine r_iload_n 31 dX0_hasHop_30 rfl rfl ?_
      refine r_iconst (v := nI 4) 32 dX0_hasHop_31 rfl (by decide) ?_
      refine r_icmp_ge 87 35 dX0_hasHop_32 (by decide) rfl (fun q32 => absurd q32 (nI_ge (by omega) (by omega))) (fun q32 => ?_)
      refine r_iload_n 36 dX0_hasHop_35 rfl rfl ?_
      refine r_iload_n 37 dX0_hasHop_36 rfl rfl ?_
      refine r_callSN0 40 dX0_hasHop_37 rfl (tX6_mayGo) l_X0_60 mX6_mayGo rfl (by decide) (Nat.le_of_ble_eq_true rfl) (by decide) (qI ?_)
      refine r_if_eq 62 43 dX0_hasHop_40 (by decide) rfl (fun q40 => ?_) (fun q40 => ?_)
      · refine r_iconst (v := 0) 63 dX0_hasHop_62 rfl (by decide) ?_
        refine r_istore (ls1 := [_, _, _, _, _]) 65 dX0_hasHop_63 rfl (by decide) rfl rfl ?_
        refine r_iload 67 dX0_hasHop_65 rfl rfl ?_
        refine r_if_ne 79 70 dX0_hasHop_67 (by decide) rfl (fun q67 => absurd q67 (by decide)) (fun q67 => ?_)
        refine r_aload_n 71 dX0_hasHop_70 rfl rfl rfl ?_
        refine r_iload_n 72 dX0_hasHop_71 rfl rfl ?_
        refine r_iload_n 73 dX0_hasHop_72 rfl rfl ?_
        refine r_callV0 76 dX0_hasHop_73 rfl (tX0_stepsToPrey hb hs (by omega)) l_X0_75 mX0_stepsToPrey rfl (by repeat (first | assumption | refine gs_eq ?_ | refine gs_ne (by omega) ?_ | exact is_of (by assumption) | refine gs_is ?_)) rfl (by decide) (Nat.le_of_ble_eq_true rfl) (by decide) (qI ?_)
        refine r_if_le 81 79 dX0_hasHop_76 (by decide) rfl (fun q76 => ?_) (fun q76 => ?_)
        · refine r_iinc (ls1 := [_, _, _, _, _]) 84 dX0_hasHop_81 rfl (by decide) rfl rfl (nI_1 i) rfl ?_
          refine r_goto 30 dX0_hasHop_84 (by decide) ?_
          first | exact absurd q67 (by decide) | exact ih (i + 1) _ (by omega) (any_s hu (by rw [hasW, decide_eq_false (npos_n (Nat.lt_of_le_of_lt (prey_le f s i) (by decide)) q76)]; first | (rw [bI_0.mp q40]; rfl) | (rw [decide_eq_false q55]; simp)))
        · refine r_iconst (v := 1) 80 dX0_hasHop_79 rfl (by decide) ?_
          refine r_bret dX0_hasHop_80 rfl (by first | exact Or.inl rfl | exact Or.inr rfl) (by decide) (by decide) ?_
          first | exact absurd q67 (by decide) | exact ⟨by rw [ret1 (by rw [hasW, ne_f q40, decide_eq_true q55]; rfl)]; rfl, rfl⟩ | exact ⟨by rw [ret1 (by rw [hasW, decide_eq_true (pos_n q76)]; simp)]; rfl, rfl⟩
      · refine r_aload_n 44 dX0_hasHop_43 rfl rfl rfl ?_
        refine r_iload_n 45 dX0_hasHop_44 rfl rfl ?_
        refine r_iload_n 46 dX0_hasHop_45 rfl rfl ?_
        refine r_iconst (v := nI 1) 47 dX0_hasHop_46 rfl (by decide) ?_
        refine r_callSN0 50 dX0_hasHop_47 rfl (tX6_sq1 hs (by omega)) l_X0_68 mX6_squareAfter rfl (by decide) (Nat.le_of_ble_eq_true rfl) (by decide) (qI ?_)
        refine r_callV0 53 dX0_hasHop_50 rfl (tX0_pAt hb (nx_lt _ _)) l_X0_57 mX0_pieceAt rfl (by repeat (first | assumption | refine gs_eq ?_ | refine gs_ne (by omega) ?_ | exact is_of (by assumption) | refine gs_is ?_)) rfl (by decide) (Nat.le_of_ble_eq_true rfl) (by decide) (qI ?_)
        refine r_bipush (v := (-6)) 55 dX0_hasHop_53 rfl (by decide) ?_
        refine r_icmp_ne 62 58 dX0_hasHop_55 (by decide) rfl (fun q55 => ?_) (fun q55 => ?_)
        · refine r_iconst (v := 0) 63 dX0_hasHop_62 rfl (by decide) ?_
          refine r_istore (ls1 := [_, _, _, _, _]) 65 dX0_hasHop_63 rfl (by decide) rfl rfl ?_
          refine r_iload 67 dX0_hasHop_65 rfl rfl ?_
          refine r_if_ne 79 70 dX0_hasHop_67 (by decide) rfl (fun q67 => absurd q67 (by decide)) (fun q67 => ?_)
          refine r_aload_n 71 dX0_hasHop_70 rfl rfl rfl ?_
          refine r_iload_n 72 dX0_hasHop_71 rfl rfl ?_
          refine r_iload_n 73 dX0_hasHop_72 rfl rfl ?_
          refine r_callV0 76 dX0_hasHop_73 rfl (tX0_stepsToPrey hb hs (by omega)) l_X0_75 mX0_stepsToPrey rfl (by repeat (first | assumption | refine gs_eq ?_ | refine gs_ne (by omega) ?_ | exact is_of (by assumption) | refine gs_is ?_)) rfl (by decide) (Nat.le_of_ble_eq_true rfl) (by decide) (qI ?_)
          refine r_if_le 81 79 dX0_hasHop_76 (by decide) rfl (fun q76 => ?_) (fun q76 => ?_)
          · refine r_iinc (ls1 := [_, _, _, _, _]) 84 dX0_hasHop_81 rfl (by decide) rfl rfl (nI_1 i) rfl ?_
            refine r_goto 30 dX0_hasHop_84 (by decide) ?_
            first | exact absurd q67 (by decide) | exact ih (i + 1) _ (by omega) (any_s hu (by rw [hasW, decide_eq_false (npos_n (Nat.lt_of_le_of_lt (prey_le f s i) (by decide)) q76)]; first | (rw [bI_0.mp q40]; rfl) | (rw [decide_eq_false q55]; simp)))
          · refine r_iconst (v := 1) 80 dX0_hasHop_79 rfl (by decide) ?_
            refine r_bret dX0_hasHop_80 rfl (by first | exact Or.inl rfl | exact Or.inr rfl) (by decide) (by decide) ?_
            first | exact absurd q67 (by decide) | exact ⟨by rw [ret1 (by rw [hasW, ne_f q40, decide_eq_true q55]; rfl)]; rfl, rfl⟩ | exact ⟨by rw [ret1 (by rw [hasW, decide_eq_true (pos_n q76)]; simp)]; rfl, rfl⟩
        · refine r_iconst (v := 1) 59 dX0_hasHop_58 rfl (by decide) ?_
          refine r_goto 63 dX0_hasHop_59 (by decide) ?_
          refine r_istore (ls1 := [_, _, _, _, _]) 65 dX0_hasHop_63 rfl (by decide) rfl rfl ?_
          refine r_iload 67 dX0_hasHop_65 rfl rfl ?_
          refine r_if_ne 79 70 dX0_hasHop_67 (by decide) rfl (fun q67 => ?_) (fun q67 => absurd q67 (by decide))
          refine r_iconst (v := 1) 80 dX0_hasHop_79 rfl (by decide) ?_
          refine r_bret dX0_hasHop_80 rfl (by first | exact Or.inl rfl | exact Or.inr rfl) (by decide) (by decide) ?_
          first | exact absurd q67 (by decide) | exact ⟨by rw [ret1 (by rw [hasW, ne_f q40, decide_eq_true q55]; rfl)]; rfl, rfl⟩ | exact ⟨by rw [ret1 (by rw [hasW, decide_eq_true (pos_n q76)]; simp)]; rfl, rfl⟩
  have outer : ∀ (m i : Nat) (x2 x3 x4 : Option Value), i + m = 48 → ((List.range i).any (fun s => decide (sdO (f s) = mv) && (List.range 4).any (hasW f s)) = false) → (nl x2 = true) → (nl x3 = true) → Rn Γ XX0_hasHop (rmO 3 0 0) none (FinM (rI (bI (hasH f mv)) w) 0 0) 0 0 w 2 [some (.ref b), some (.int (nI i)), x2, x3, x4] [] := by
    intro m
    induction m with
    | zero =>
      intro i x2 x3 x4 hi hu e2 e3
      have h4 : i = 48 := by omega
      subst h4
      refine r_iload_n 3 dX0_hasHop_2 rfl rfl ?_
      refine r_bipush (v := nI 48) 5 dX0_hasHop_3 rfl (by decide) ?_
      refine r_icmp_ge 93 8 dX0_hasHop_5 (by decide) rfl (fun q5 => ?_) (fun q5 => absurd q5 (fun z => z (nI_le (by omega) (by omega))))
      refine r_iconst (v := 0) 94 dX0_hasHop_93 rfl (by decide) ?_
      refine r_bret dX0_hasHop_94 rfl (by first | exact Or.inl rfl | exact Or.inr rfl) (by decide) (by decide) ?_
      exact ⟨by rw [hasH, hu]; rfl, rfl⟩
    | succ m ih =>
      intro i x2 x3 x4 hi hu e2 e3
      refine r_iload_n 3 dX0_hasHop_2 rfl rfl ?_
      refine r_bipush (v := nI 48) 5 dX0_hasHop_3 rfl (by decide) ?_
      refine r_icmp_ge 93 8 dX0_hasHop_5 (by decide) rfl (fun q5 => absurd q5 (nI_ge (by omega) (by omega))) (fun q5 => ?_)
      refine r_aload_n 9 dX0_hasHop_8 rfl rfl rfl ?_
      refine r_iload_n 10 dX0_hasHop_9 rfl rfl ?_
      refine r_callV0 13 dX0_hasHop_10 rfl (tX0_pAt hb (by omega)) l_X0_57 mX0_pieceAt rfl (by repeat (first | assumption | refine gs_eq ?_ | refine gs_ne (by omega) ?_ | exact is_of (by assumption) | refine gs_is ?_)) rfl (by decide) (Nat.le_of_ble_eq_true rfl) (by decide) (qI ?_)
      refine r_istore_n (ls1 := [_, _, _, _, _]) 14 dX0_hasHop_13 rfl (by decide) rfl rfl ?_
      refine r_iload_n 15 dX0_hasHop_14 rfl rfl ?_
      refine r_callSN0 18 dX0_hasHop_15 rfl (tX6_sideOf) l_X0_72 mX6_sideOf rfl (by decide) (Nat.le_of_ble_eq_true rfl) (by decide) (qI ?_)
      refine r_aload_n 19 dX0_hasHop_18 rfl rfl rfl ?_
      refine r_getf 22 dX0_hasHop_19 rfl f_X0_18.r (by repeat (first | assumption | refine gs_eq ?_ | refine gs_ne (by omega) ?_ | exact is_of (by assumption) | refine gs_is ?_)) rfl ?_
      refine r_icmp_eq 28 25 dX0_hasHop_22 (by decide) rfl (fun q22 => ?_) (fun q22 => ?_)
      · refine r_iconst (v := nI 0) 29 dX0_hasHop_28 rfl (by decide) ?_
        refine r_istore_n (ls1 := [_, _, _, _, _]) 30 dX0_hasHop_29 rfl (by decide) rfl rfl ?_
        refine inner i (by omega) q22 (fun hz x2 x3 x4 e2 e3 => ?_) 4 0 _ rfl rfl
        refine r_iinc (ls1 := [_, _, _, _, _]) 90 dX0_hasHop_87 rfl (by decide) rfl rfl (nI_1 i) rfl ?_
        refine r_goto 2 dX0_hasHop_90 (by decide) ?_
        exact ih (i + 1) _ _ _ (by omega) (any_s hu (by rw [hz]; simp)) e2 e3
      · refine r_goto 87 dX0_hasHop_25 (by decide) ?_
        refine r_iinc (ls1 := [_, _, _, _, _]) 90 dX0_hasHop_87 rfl (by decide) rfl rfl (nI_1 i) rfl ?_
        refine r_goto 2 dX0_hasHop_90 (by decide) ?_
        exact ih (i + 1) _ _ _ (by omega) (any_s hu (by rw [decide_eq_false q22]; rfl)) rfl e3
  refine Cl.of (ls := [some (.ref b), none, none, none, none]) rfl (by decide +kernel) (fun h => by cases h) (Nat.le_of_ble_eq_true rfl) rfl ?_
  refine r_iconst (v := nI 0) 1 dX0_hasHop_0 rfl (by decide) ?_
  refine r_istore_n (ls1 := [_, _, _, _, _]) 2 dX0_hasHop_1 rfl (by decide) rfl rfl ?_
  exact outer 48 0 _ _ _ rfl rfl rfl rfl

