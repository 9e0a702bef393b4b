/-! ===== the list of hops ===== -/
abbrev HP : Type := Nat × Nat × Nat × Nat × Int32
def hpO (l : List HP) (a b c d e : Nat → Int32) : Prop := ∀ (i : Nat) (q : HP), l[i]? = some q → a i = nI q.1 ∧ b i = nI q.2.1 ∧ c i = nI q.2.2.1 ∧ d i = nI q.2.2.2.1 ∧ e i = q.2.2.2.2
def isHp (w : PW) (h : Nat) (l : List HP) : Prop := l.length ≤ 192 ∧ ∃ a b c d e : Nat → Int32, hpO l a b c d e ∧ w[h]? = some (oB 3 [.ref (h + 1), .ref (h + 2), .ref (h + 3), .ref (h + 4), .ref (h + 5), .int (nI l.length)]) ∧ w[h + 1]? = some (aI 192 a) ∧ w[h + 2]? = some (aI 192 b) ∧ w[h + 3]? = some (aI 192 c) ∧ w[h + 4]? = some (aI 192 d) ∧ w[h + 5]? = some (aI 192 e)
def hS (h : Nat) : Nat → Prop := fun q => h ≤ q ∧ q < h + 6
def toHp (w : PW) (h : Nat) (l : List HP) : PW → Prop := fun w1 => Fr w w1 (hS h) ∧ isHp w1 h l
theorem isHp.fr {w w1 : PW} {h : Nat} {l : List HP} {S : Nat → Prop} (k : isHp w h l) (hF : Fr w w1 S) (hn : ∀ q, h ≤ q → q < h + 6 → ¬ S q) : isHp w1 h l := by
  obtain ⟨k0, a, b, c, d, e, k1, k2, k3, k4, k5, k6, k7⟩ := k
  exact ⟨k0, a, b, c, d, e, k1, hF.at (hn _ (by omega) (by omega)) k2, hF.at (hn _ (by omega) (by omega)) k3, hF.at (hn _ (by omega) (by omega)) k4, hF.at (hn _ (by omega) (by omega)) k5, hF.at (hn _ (by omega) (by omega)) k6, hF.at (hn _ (by omega) (by omega)) k7⟩
theorem toHp.tr {w w1 w2 : PW} {h : Nat} {l l2 : List HP} (k : toHp w h l w1) (k2 : toHp w1 h l2 w2) : toHp w h l2 w2 := ⟨k.1.tr k2.1, k2.2⟩
def hasO (l : List HP) (x : Int32) : Bool := decide (0 ≤ x ∧ x < nI l.length)
theorem hasO_ix {l : List HP} {x : Int32} (hl : l.length < 2147483648) (h : hasO l x = true) : ∃ j : Nat, j < l.length ∧ x = nI j := by
  have h1 := of_decide_eq_true h
  exact ix_of (Int32.not_lt.mpr h1.1) (Int32.not_le.mpr h1.2) hl
theorem hasO_t {l : List HP} {j : Nat} (hl : l.length < 2147483648) (hj : j < l.length) : hasO l (nI j) = true := decide_eq_true ⟨nI_pos' (by omega), nI_lt hj hl⟩
theorem hasO_f {l : List HP} {x : Int32} (h : x < 0 ∨ nI l.length ≤ x) : hasO l x = false := by
  refine decide_eq_false fun q => ?_
  rcases h with h | h
  · exact Int32.not_le.mpr h q.1
  · exact Int32.not_lt.mpr h q.2
def fI (p : HP → Bool) : List HP → Nat → Int32
  | [], _ => -6
  | q :: t, k => if p q = true then nI k else fI p t (k + 1)
def isFT (x y : Int32) (q : HP) : Bool := decide (nI q.1 = x) && decide (nI q.2.1 = y)
theorem drop_c {α : Type} {l : List α} {i : Nat} (hi : i < l.length) : ∃ q, l[i]? = some q ∧ l.drop i = q :: l.drop (i + 1) := ⟨l[i], List.getElem?_eq_getElem hi, List.drop_eq_getElem_cons hi⟩
set_option maxRecDepth 100000 in
theorem tX3_has {Γ : CT} {w : PW} {h : Nat} {l : List HP} {x : Int32} (hh : isHp w h l) : Cl Γ yX3_has XX3_has 0 0 0 [.ref h, .int x] w (rI (bI (hasO l x)) w) := by
  refine Cl.of (ls := [some (.ref h), some (.int x)]) rfl (by decide +kernel) (fun h => by cases h) (Nat.le_of_ble_eq_true rfl) rfl ?_
  obtain ⟨hl, ca, cb, cc, cd, ce, hO, h0, h1, h2, h3, h4, h5⟩ := id hh
  refine r_iload_n 1 dX3_has_0 rfl rfl ?_
  refine r_if_lt 23 4 dX3_has_1 (by decide) rfl (fun q1 => ?_) (fun q1 => ?_)
  · refine r_iconst (v := 0) 24 dX3_has_23 rfl (by decide) ?_
    refine r_bret dX3_has_24 rfl (by first | exact Or.inl rfl | exact Or.inr rfl) (by decide) (by decide) ?_
    first | exact ⟨by rw [hasO_f (Or.inl q1)]; rfl, rfl⟩ | exact ⟨by rw [hasO_f (Or.inr q9)]; rfl, rfl⟩ | exact ⟨by rw [hasO, decide_eq_true ⟨Int32.not_lt.mp q1, Int32.not_le.mp q9⟩]; rfl, rfl⟩ | exact absurd (Int32.lt_of_le_of_lt q16 (Int32.not_le.mp q9)) (nI_nlt (a := 192) hl (by decide))
  · refine r_iload_n 5 dX3_has_4 rfl rfl ?_
    refine r_aload_n 6 dX3_has_5 rfl rfl rfl ?_
    refine r_getf 9 dX3_has_6 rfl f_X3_27.r (by repeat (first | assumption | refine gs_eq ?_ | refine gs_ne (by omega) ?_ | exact is_of (by assumption) | refine gs_is ?_)) rfl ?_
    refine r_icmp_ge 23 12 dX3_has_9 (by decide) rfl (fun q9 => ?_) (fun q9 => ?_)
    · refine r_iconst (v := 0) 24 dX3_has_23 rfl (by decide) ?_
      refine r_bret dX3_has_24 rfl (by first | exact Or.inl rfl | exact Or.inr rfl) (by decide) (by decide) ?_
      first | exact ⟨by rw [hasO_f (Or.inl q1)]; rfl, rfl⟩ | exact ⟨by rw [hasO_f (Or.inr q9)]; rfl, rfl⟩ | exact ⟨by rw [hasO, decide_eq_true ⟨Int32.not_lt.mp q1, Int32.not_le.mp q9⟩]; rfl, rfl⟩ | exact absurd (Int32.lt_of_le_of_lt q16 (Int32.not_le.mp q9)) (nI_nlt (a := 192) hl (by decide))
    · refine r_iload_n 13 dX3_has_12 rfl rfl ?_
      refine r_sipush (v := 192) 16 dX3_has_13 rfl (by decide) ?_
      refine r_icmp_ge 23 19 dX3_has_16 (by decide) rfl (fun q16 => ?_) (fun q16 => ?_)
      · refine r_iconst (v := 0) 24 dX3_has_23 rfl (by decide) ?_
        refine r_bret dX3_has_24 rfl (by first | exact Or.inl rfl | exact Or.inr rfl) (by decide) (by decide) ?_
        first | exact ⟨by rw [hasO_f (Or.inl q1)]; rfl, rfl⟩ | exact ⟨by rw [hasO_f (Or.inr q9)]; rfl, rfl⟩ | exact ⟨by rw [hasO, decide_eq_true ⟨Int32.not_lt.mp q1, Int32.not_le.mp q9⟩]; rfl, rfl⟩ | exact absurd (Int32.lt_of_le_of_lt q16 (Int32.not_le.mp q9)) (nI_nlt (a := 192) hl (by decide))
      · refine r_iconst (v := 1) 20 dX3_has_19 rfl (by decide) ?_
        refine r_goto 24 dX3_has_20 (by decide) ?_
        refine r_bret dX3_has_24 rfl (by first | exact Or.inl rfl | exact Or.inr rfl) (by decide) (by decide) ?_
        first | exact ⟨by rw [hasO_f (Or.inl q1)]; rfl, rfl⟩ | exact ⟨by rw [hasO_f (Or.inr q9)]; rfl, rfl⟩ | exact ⟨by rw [hasO, decide_eq_true ⟨Int32.not_lt.mp q1, Int32.not_le.mp q9⟩]; rfl, rfl⟩ | exact absurd (Int32.lt_of_le_of_lt q16 (Int32.not_le.mp q9)) (nI_nlt (a := 192) hl (by decide))

set_option maxRecDepth 100000 in
theorem tX3_from {Γ : CT} {w : PW} {h : Nat} {l : List HP} {j : Nat} {q : HP} (hh : isHp w h l) (hq : l[j]? = some q) : Cl Γ yX3_from XX3_from 1 0 0 [.ref h, .int (nI j)] w (rI (nI q.1) w) := by
  refine Cl.of (ls := [some (.ref h), some (.int (nI j))]) rfl (by decide +kernel) (fun h => by cases h) (Nat.le_of_ble_eq_true rfl) rfl ?_
  obtain ⟨hl, ca, cb, cc, cd, ce, hO, h0, h1, h2, h3, h4, h5⟩ := id hh
  have hj : j < l.length := (List.getElem?_eq_some_iff.mp hq).1
  refine r_aload_n 1 dX3_from_0 rfl rfl rfl ?_
  refine r_iload_n 2 dX3_from_1 rfl rfl ?_
  refine r_callV0 5 dX3_from_2 rfl (tX3_has hh) l_X3_31 mX3_has rfl (by repeat (first | assumption | refine gs_eq ?_ | refine gs_ne (by omega) ?_ | exact is_of (by assumption) | refine gs_is ?_)) rfl (by decide) (Nat.le_of_ble_eq_true rfl) (by decide) (qI ?_)
  refine r_if_eq 17 8 dX3_from_5 (by decide) rfl (fun q5 => absurd q5 (by rw [hasO_t (by omega) hj]; decide)) (fun q5 => ?_)
  refine r_aload_n 9 dX3_from_8 rfl rfl rfl ?_
  refine r_getf 12 dX3_from_9 rfl f_X3_11.r (by repeat (first | assumption | refine gs_eq ?_ | refine gs_ne (by omega) ?_ | exact is_of (by assumption) | refine gs_is ?_)) rfl ?_
  refine r_iload_n 13 dX3_from_12 rfl rfl ?_
  refine r_iald 14 dX3_from_13 rfl (j) (by repeat (first | assumption | refine gs_eq ?_ | refine gs_ne (by omega) ?_ | exact is_of (by assumption) | refine gs_is ?_)) rfl (by omega) (by decide) ?_
  refine r_goto 19 dX3_from_14 (by decide) ?_
  refine r_iret dX3_from_19 rfl (by decide) (by decide) ?_
  exact ⟨by rw [(hO j q hq).1], rfl⟩

set_option maxRecDepth 100000 in
theorem tX3_to {Γ : CT} {w : PW} {h : Nat} {l : List HP} {j : Nat} {q : HP} (hh : isHp w h l) (hq : l[j]? = some q) : Cl Γ yX3_to XX3_to 1 0 0 [.ref h, .int (nI j)] w (rI (nI q.2.1) w) := by
  refine Cl.of (ls := [some (.ref h), some (.int (nI j))]) rfl (by decide +kernel) (fun h => by cases h) (Nat.le_of_ble_eq_true rfl) rfl ?_
  obtain ⟨hl, ca, cb, cc, cd, ce, hO, h0, h1, h2, h3, h4, h5⟩ := id hh
  have hj : j < l.length := (List.getElem?_eq_some_iff.mp hq).1
  refine r_aload_n 1 dX3_to_0 rfl rfl rfl ?_
  refine r_iload_n 2 dX3_to_1 rfl rfl ?_
  refine r_callV0 5 dX3_to_2 rfl (tX3_has hh) l_X3_31 mX3_has rfl (by repeat (first | assumption | refine gs_eq ?_ | refine gs_ne (by omega) ?_ | exact is_of (by assumption) | refine gs_is ?_)) rfl (by decide) (Nat.le_of_ble_eq_true rfl) (by decide) (qI ?_)
  refine r_if_eq 17 8 dX3_to_5 (by decide) rfl (fun q5 => absurd q5 (by rw [hasO_t (by omega) hj]; decide)) (fun q5 => ?_)
  refine r_aload_n 9 dX3_to_8 rfl rfl rfl ?_
  refine r_getf 12 dX3_to_9 rfl f_X3_15.r (by repeat (first | assumption | refine gs_eq ?_ | refine gs_ne (by omega) ?_ | exact is_of (by assumption) | refine gs_is ?_)) rfl ?_
  refine r_iload_n 13 dX3_to_12 rfl rfl ?_
  refine r_iald 14 dX3_to_13 rfl (j) (by repeat (first | assumption | refine gs_eq ?_ | refine gs_ne (by omega) ?_ | exact is_of (by assumption) | refine gs_is ?_)) rfl (by omega) (by decide) ?_
  refine r_goto 19 dX3_to_14 (by decide) ?_
  refine r_iret dX3_to_19 rfl (by decide) (by decide) ?_
  exact ⟨by rw [(hO j q hq).2.1], rfl⟩

set_option maxRecDepth 100000 in
theorem tX3_way {Γ : CT} {w : PW} {h : Nat} {l : List HP} {j : Nat} {q : HP} (hh : isHp w h l) (hq : l[j]? = some q) : Cl Γ yX3_way XX3_way 1 0 0 [.ref h, .int (nI j)] w (rI (nI q.2.2.1) w) := by
  refine Cl.of (ls := [some (.ref h), some (.int (nI j))]) rfl (by decide +kernel) (fun h => by cases h) (Nat.le_of_ble_eq_true rfl) rfl ?_
  obtain ⟨hl, ca, cb, cc, cd, ce, hO, h0, h1, h2, h3, h4, h5⟩ := id hh
  have hj : j < l.length := (List.getElem?_eq_some_iff.mp hq).1
  refine r_aload_n 1 dX3_way_0 rfl rfl rfl ?_
  refine r_iload_n 2 dX3_way_1 rfl rfl ?_
  refine r_callV0 5 dX3_way_2 rfl (tX3_has hh) l_X3_31 mX3_has rfl (by repeat (first | assumption | refine gs_eq ?_ | refine gs_ne (by omega) ?_ | exact is_of (by assumption) | refine gs_is ?_)) rfl (by decide) (Nat.le_of_ble_eq_true rfl) (by decide) (qI ?_)
  refine r_if_eq 17 8 dX3_way_5 (by decide) rfl (fun q5 => absurd q5 (by rw [hasO_t (by omega) hj]; decide)) (fun q5 => ?_)
  refine r_aload_n 9 dX3_way_8 rfl rfl rfl ?_
  refine r_getf 12 dX3_way_9 rfl f_X3_18.r (by repeat (first | assumption | refine gs_eq ?_ | refine gs_ne (by omega) ?_ | exact is_of (by assumption) | refine gs_is ?_)) rfl ?_
  refine r_iload_n 13 dX3_way_12 rfl rfl ?_
  refine r_iald 14 dX3_way_13 rfl (j) (by repeat (first | assumption | refine gs_eq ?_ | refine gs_ne (by omega) ?_ | exact is_of (by assumption) | refine gs_is ?_)) rfl (by omega) (by decide) ?_
  refine r_goto 19 dX3_way_14 (by decide) ?_
  refine r_iret dX3_way_19 rfl (by decide) (by decide) ?_
  exact ⟨by rw [(hO j q hq).2.2.1], rfl⟩

set_option maxRecDepth 100000 in
theorem tX3_steps {Γ : CT} {w : PW} {h : Nat} {l : List HP} {j : Nat} {q : HP} (hh : isHp w h l) (hq : l[j]? = some q) : Cl Γ yX3_steps XX3_steps 1 0 0 [.ref h, .int (nI j)] w (rI (nI q.2.2.2.1) w) := by
  refine Cl.of (ls := [some (.ref h), some (.int (nI j))]) rfl (by decide +kernel) (fun h => by cases h) (Nat.le_of_ble_eq_true rfl) rfl ?_
  obtain ⟨hl, ca, cb, cc, cd, ce, hO, h0, h1, h2, h3, h4, h5⟩ := id hh
  have hj : j < l.length := (List.getElem?_eq_some_iff.mp hq).1
  refine r_aload_n 1 dX3_steps_0 rfl rfl rfl ?_
  refine r_iload_n 2 dX3_steps_1 rfl rfl ?_
  refine r_callV0 5 dX3_steps_2 rfl (tX3_has hh) l_X3_31 mX3_has rfl (by repeat (first | assumption | refine gs_eq ?_ | refine gs_ne (by omega) ?_ | exact is_of (by assumption) | refine gs_is ?_)) rfl (by decide) (Nat.le_of_ble_eq_true rfl) (by decide) (qI ?_)
  refine r_if_eq 17 8 dX3_steps_5 (by decide) rfl (fun q5 => absurd q5 (by rw [hasO_t (by omega) hj]; decide)) (fun q5 => ?_)
  refine r_aload_n 9 dX3_steps_8 rfl rfl rfl ?_
  refine r_getf 12 dX3_steps_9 rfl f_X3_21.r (by repeat (first | assumption | refine gs_eq ?_ | refine gs_ne (by omega) ?_ | exact is_of (by assumption) | refine gs_is ?_)) rfl ?_
  refine r_iload_n 13 dX3_steps_12 rfl rfl ?_
  refine r_iald 14 dX3_steps_13 rfl (j) (by repeat (first | assumption | refine gs_eq ?_ | refine gs_ne (by omega) ?_ | exact is_of (by assumption) | refine gs_is ?_)) rfl (by omega) (by decide) ?_
  refine r_goto 18 dX3_steps_14 (by decide) ?_
  refine r_iret dX3_steps_18 rfl (by decide) (by decide) ?_
  exact ⟨by rw [(hO j q hq).2.2.2.1], rfl⟩

set_option maxRecDepth 100000 in
theorem tX3_taken {Γ : CT} {w : PW} {h : Nat} {l : List HP} {j : Nat} {q : HP} (hh : isHp w h l) (hq : l[j]? = some q) : Cl Γ yX3_taken XX3_taken 1 0 0 [.ref h, .int (nI j)] w (rI (q.2.2.2.2) w) := by
  refine Cl.of (ls := [some (.ref h), some (.int (nI j))]) rfl (by decide +kernel) (fun h => by cases h) (Nat.le_of_ble_eq_true rfl) rfl ?_
  obtain ⟨hl, ca, cb, cc, cd, ce, hO, h0, h1, h2, h3, h4, h5⟩ := id hh
  have hj : j < l.length := (List.getElem?_eq_some_iff.mp hq).1
  refine r_aload_n 1 dX3_taken_0 rfl rfl rfl ?_
  refine r_iload_n 2 dX3_taken_1 rfl rfl ?_
  refine r_callV0 5 dX3_taken_2 rfl (tX3_has hh) l_X3_31 mX3_has rfl (by repeat (first | assumption | refine gs_eq ?_ | refine gs_ne (by omega) ?_ | exact is_of (by assumption) | refine gs_is ?_)) rfl (by decide) (Nat.le_of_ble_eq_true rfl) (by decide) (qI ?_)
  refine r_if_eq 17 8 dX3_taken_5 (by decide) rfl (fun q5 => absurd q5 (by rw [hasO_t (by omega) hj]; decide)) (fun q5 => ?_)
  refine r_aload_n 9 dX3_taken_8 rfl rfl rfl ?_
  refine r_getf 12 dX3_taken_9 rfl f_X3_24.r (by repeat (first | assumption | refine gs_eq ?_ | refine gs_ne (by omega) ?_ | exact is_of (by assumption) | refine gs_is ?_)) rfl ?_
  refine r_iload_n 13 dX3_taken_12 rfl rfl ?_
  refine r_iald 14 dX3_taken_13 rfl (j) (by repeat (first | assumption | refine gs_eq ?_ | refine gs_ne (by omega) ?_ | exact is_of (by assumption) | refine gs_is ?_)) rfl (by omega) (by decide) ?_
  refine r_goto 19 dX3_taken_14 (by decide) ?_
  refine r_iret dX3_taken_19 rfl (by decide) (by decide) ?_
  exact ⟨by rw [(hO j q hq).2.2.2.2], rfl⟩

set_option maxRecDepth 100000 in
theorem tX3_find {Γ : CT} {w : PW} {h : Nat} {l : List HP} {x y : Int32} (hh : isHp w h l) : Cl Γ yX3_find XX3_find 2 0 0 [.ref h, .int x, .int y] w (rI (fI (isFT x y) l 0) w) := by
  obtain ⟨hl, ca, cb, cc, cd, ce, hO, h0, h1, h2, h3, h4, h5⟩ := id hh
  have loop : ∀ (m i : Nat) , i + m = l.length → (fI (isFT x y) (l.drop i) i = fI (isFT x y) l 0) → Rn Γ XX3_find (rmO 2 0 0) none (FinM (rI (fI (isFT x y) l 0) w) 0 0) 0 0 w 2 [some (.ref h), some (.int x), some (.int y), some (.int (nI i))] [] := by
    intro m
    induction m with
    | zero =>
      intro i  hi hu
      have h9 : i = l.length := by omega
      subst h9
      refine r_iload_n 3 dX3_find_2 rfl rfl ?_
      refine r_aload_n 4 dX3_find_3 rfl rfl rfl ?_
      refine r_getf 7 dX3_find_4 rfl f_X3_27.r (by repeat (first | assumption | refine gs_eq ?_ | refine gs_ne (by omega) ?_ | exact is_of (by assumption) | refine gs_is ?_)) rfl ?_
      refine r_icmp_ge 36 10 dX3_find_7 (by decide) rfl (fun q7 => ?_) (fun q7 => absurd q7 (fun z => z (nI_le (by omega) (by omega))))
      refine r_bipush (v := (-6)) 38 dX3_find_36 rfl (by decide) ?_
      refine r_iret dX3_find_38 rfl (by decide) (by decide) ?_
      exact ⟨by rw [← hu, List.drop_length]; rfl, rfl⟩
    | succ m ih =>
      intro i  hi hu
      obtain ⟨q, hq, hd⟩ := drop_c (l := l) (i := i) (by omega)
      rw [hd, fI] at hu
      refine r_iload_n 3 dX3_find_2 rfl rfl ?_
      refine r_aload_n 4 dX3_find_3 rfl rfl rfl ?_
      refine r_getf 7 dX3_find_4 rfl f_X3_27.r (by repeat (first | assumption | refine gs_eq ?_ | refine gs_ne (by omega) ?_ | exact is_of (by assumption) | refine gs_is ?_)) rfl ?_
      refine r_icmp_ge 36 10 dX3_find_7 (by decide) rfl (fun q7 => absurd q7 (nI_ge (by omega) (by omega))) (fun q7 => ?_)
      refine r_aload_n 11 dX3_find_10 rfl rfl rfl ?_
      refine r_iload_n 12 dX3_find_11 rfl rfl ?_
      refine r_callV0 15 dX3_find_12 rfl (tX3_from hh hq) l_X3_35 mX3_from rfl (by repeat (first | assumption | refine gs_eq ?_ | refine gs_ne (by omega) ?_ | exact is_of (by assumption) | refine gs_is ?_)) rfl (by decide) (Nat.le_of_ble_eq_true rfl) (by decide) (qI ?_)
      refine r_iload_n 16 dX3_find_15 rfl rfl ?_
      refine r_icmp_ne 30 19 dX3_find_16 (by decide) rfl (fun q16 => ?_) (fun q16 => ?_)
      · refine r_iinc (ls1 := [_, _, _, _]) 33 dX3_find_30 rfl (by decide) rfl rfl (nI_1 i) rfl ?_
        refine r_goto 2 dX3_find_33 (by decide) ?_
        exact ih (i + 1) (by omega) (by rw [← hu, if_neg (by first | (rw [isFT, decide_eq_false q16]; simp) | (rw [isFT, decide_eq_false q25]; simp))])
      · refine r_aload_n 20 dX3_find_19 rfl rfl rfl ?_
        refine r_iload_n 21 dX3_find_20 rfl rfl ?_
        refine r_callV0 24 dX3_find_21 rfl (tX3_to hh hq) l_X3_39 mX3_to rfl (by repeat (first | assumption | refine gs_eq ?_ | refine gs_ne (by omega) ?_ | exact is_of (by assumption) | refine gs_is ?_)) rfl (by decide) (Nat.le_of_ble_eq_true rfl) (by decide) (qI ?_)
        refine r_iload_n 25 dX3_find_24 rfl rfl ?_
        refine r_icmp_ne 30 28 dX3_find_25 (by decide) rfl (fun q25 => ?_) (fun q25 => ?_)
        · refine r_iinc (ls1 := [_, _, _, _]) 33 dX3_find_30 rfl (by decide) rfl rfl (nI_1 i) rfl ?_
          refine r_goto 2 dX3_find_33 (by decide) ?_
          exact ih (i + 1) (by omega) (by rw [← hu, if_neg (by first | (rw [isFT, decide_eq_false q16]; simp) | (rw [isFT, decide_eq_false q25]; simp))])
        · refine r_iload_n 29 dX3_find_28 rfl rfl ?_
          refine r_iret dX3_find_29 rfl (by decide) (by decide) ?_
          exact ⟨by rw [← hu, if_pos (by rw [isFT, decide_eq_true q16, decide_eq_true q25]; rfl)], rfl⟩
  refine Cl.of (ls := [some (.ref h), some (.int x), some (.int y), none]) rfl (by decide +kernel) (fun h => by cases h) (Nat.le_of_ble_eq_true rfl) rfl ?_
  refine r_iconst (v := nI 0) 1 dX3_find_0 rfl (by decide) ?_
  refine r_istore_n (ls1 := [_, _, _, _]) 2 dX3_find_1 rfl (by decide) rfl rfl ?_
  exact loop l.length 0 (by omega) rfl

set_option maxRecDepth 100000 in
theorem tX3_numberFrom {Γ : CT} {w : PW} {h : Nat} {l : List HP} {x : Int32} (hh : isHp w h l) : Cl Γ yX3_numberFrom XX3_numberFrom 2 0 0 [.ref h, .int x] w (rI (nI (l.countP (fun q => decide (nI q.1 = x)))) w) := by
  obtain ⟨hl, ca, cb, cc, cd, ce, hO, h0, h1, h2, h3, h4, h5⟩ := id hh
  have loop : ∀ (m i : Nat) (c : Nat), i + m = l.length → (c + (l.drop i).countP (fun q => decide (nI q.1 = x)) = l.countP (fun q => decide (nI q.1 = x))) → Rn Γ XX3_numberFrom (rmO 2 0 0) none (FinM (rI (nI (l.countP (fun q => decide (nI q.1 = x)))) w) 0 0) 0 0 w 4 [some (.ref h), some (.int x), some (.int (nI c)), some (.int (nI i))] [] := by
    intro m
    induction m with
    | zero =>
      intro i c hi hu
      have h9 : i = l.length := by omega
      subst h9
      rw [List.drop_length] at hu
      refine r_iload_n 5 dX3_numberFrom_4 rfl rfl ?_
      refine r_aload_n 6 dX3_numberFrom_5 rfl rfl rfl ?_
      refine r_getf 9 dX3_numberFrom_6 rfl f_X3_27.r (by repeat (first | assumption | refine gs_eq ?_ | refine gs_ne (by omega) ?_ | exact is_of (by assumption) | refine gs_is ?_)) rfl ?_
      refine r_icmp_ge 30 12 dX3_numberFrom_9 (by decide) rfl (fun q9 => ?_) (fun q9 => absurd q9 (fun z => z (nI_le (by omega) (by omega))))
      refine r_iload_n 31 dX3_numberFrom_30 rfl rfl ?_
      refine r_iret dX3_numberFrom_31 rfl (by decide) (by decide) ?_
      exact ⟨by rw [← hu]; rfl, rfl⟩
    | succ m ih =>
      intro i c hi hu
      obtain ⟨q, hq, hd⟩ := drop_c (l := l) (i := i) (by omega)
      rw [hd, List.countP_cons] at hu
      refine r_iload_n 5 dX3_numberFrom_4 rfl rfl ?_
      refine r_aload_n 6 dX3_numberFrom_5 rfl rfl rfl ?_
      refine r_getf 9 dX3_numberFrom_6 rfl f_X3_27.r (by repeat (first | assumption | refine gs_eq ?_ | refine gs_ne (by omega) ?_ | exact is_of (by assumption) | refine gs_is ?_)) rfl ?_
      refine r_icmp_ge 30 12 dX3_numberFrom_9 (by decide) rfl (fun q9 => absurd q9 (nI_ge (by omega) (by omega))) (fun q9 => ?_)
      refine r_aload_n 13 dX3_numberFrom_12 rfl rfl rfl ?_
      refine r_iload_n 14 dX3_numberFrom_13 rfl rfl ?_
      refine r_callV0 17 dX3_numberFrom_14 rfl (tX3_from hh hq) l_X3_35 mX3_from rfl (by repeat (first | assumption | refine gs_eq ?_ | refine gs_ne (by omega) ?_ | exact is_of (by assumption) | refine gs_is ?_)) rfl (by decide) (Nat.le_of_ble_eq_true rfl) (by decide) (qI ?_)
      refine r_iload_n 18 dX3_numberFrom_17 rfl rfl ?_
      refine r_icmp_ne 24 21 dX3_numberFrom_18 (by decide) rfl (fun q18 => ?_) (fun q18 => ?_)
      · refine r_iinc (ls1 := [_, _, _, _]) 27 dX3_numberFrom_24 rfl (by decide) rfl rfl (nI_1 i) rfl ?_
        refine r_goto 4 dX3_numberFrom_27 (by decide) ?_
        first | exact ih (i + 1) (c + 1) (by omega) (by rw [if_pos (decide_eq_true q18)] at hu; omega) | exact ih (i + 1) c (by omega) (by rw [if_neg (by rw [decide_eq_false q18]; decide)] at hu; omega)
      · refine r_iinc (ls1 := [_, _, _, _]) 24 dX3_numberFrom_21 rfl (by decide) rfl rfl (nI_1 c) rfl ?_
        refine r_iinc (ls1 := [_, _, _, _]) 27 dX3_numberFrom_24 rfl (by decide) rfl rfl (nI_1 i) rfl ?_
        refine r_goto 4 dX3_numberFrom_27 (by decide) ?_
        first | exact ih (i + 1) (c + 1) (by omega) (by rw [if_pos (decide_eq_true q18)] at hu; omega) | exact ih (i + 1) c (by omega) (by rw [if_neg (by rw [decide_eq_false q18]; decide)] at hu; omega)
  refine Cl.of (ls := [some (.ref h), some (.int x), none, none]) rfl (by decide +kernel) (fun h => by cases h) (Nat.le_of_ble_eq_true rfl) rfl ?_
  refine r_iconst (v := nI 0) 1 dX3_numberFrom_0 rfl (by decide) ?_
  refine r_istore_n (ls1 := [_, _, _, _]) 2 dX3_numberFrom_1 rfl (by decide) rfl rfl ?_
  refine r_iconst (v := nI 0) 3 dX3_numberFrom_2 rfl (by decide) ?_
  refine r_istore_n (ls1 := [_, _, _, _]) 4 dX3_numberFrom_3 rfl (by decide) rfl rfl ?_
  exact loop l.length 0 0 (by omega) (by simp)

set_option maxRecDepth 100000 in
theorem tX3_takes {Γ : CT} {w : PW} {h : Nat} {l : List HP} {x : Int32} (hh : isHp w h l) : Cl Γ yX3_takes XX3_takes 2 0 0 [.ref h, .int x] w (rI (bI (l.any (fun q => decide (q.2.2.2.2 = x)))) w) := by
  obtain ⟨hl, ca, cb, cc, cd, ce, hO, h0, h1, h2, h3, h4, h5⟩ := id hh
  have loop : ∀ (m i : Nat) , i + m = l.length → ((l.drop i).any (fun q => decide (q.2.2.2.2 = x)) = l.any (fun q => decide (q.2.2.2.2 = x))) → Rn Γ XX3_takes (rmO 2 0 0) none (FinM (rI (bI (l.any (fun q => decide (q.2.2.2.2 = x)))) w) 0 0) 0 0 w 2 [some (.ref h), some (.int x), some (.int (nI i))] [] := by
    intro m
    induction m with
    | zero =>
      intro i  hi hu
      have h9 : i = l.length := by omega
      subst h9
      rw [List.drop_length] at hu
      refine r_iload_n 3 dX3_takes_2 rfl rfl ?_
      refine r_aload_n 4 dX3_takes_3 rfl rfl rfl ?_
      refine r_getf 7 dX3_takes_4 rfl f_X3_27.r (by repeat (first | assumption | refine gs_eq ?_ | refine gs_ne (by omega) ?_ | exact is_of (by assumption) | refine gs_is ?_)) rfl ?_
      refine r_icmp_ge 27 10 dX3_takes_7 (by decide) rfl (fun q7 => ?_) (fun q7 => absurd q7 (fun z => z (nI_le (by omega) (by omega))))
      refine r_iconst (v := 0) 28 dX3_takes_27 rfl (by decide) ?_
      refine r_bret dX3_takes_28 rfl (by first | exact Or.inl rfl | exact Or.inr rfl) (by decide) (by decide) ?_
      exact ⟨by rw [← hu]; rfl, rfl⟩
    | succ m ih =>
      intro i  hi hu
      obtain ⟨q, hq, hd⟩ := drop_c (l := l) (i := i) (by omega)
      rw [hd, List.any_cons] at hu
      refine r_iload_n 3 dX3_takes_2 rfl rfl ?_
      refine r_aload_n 4 dX3_takes_3 rfl rfl rfl ?_
      refine r_getf 7 dX3_takes_4 rfl f_X3_27.r (by repeat (first | assumption | refine gs_eq ?_ | refine gs_ne (by omega) ?_ | exact is_of (by assumption) | refine gs_is ?_)) rfl ?_
      refine r_icmp_ge 27 10 dX3_takes_7 (by decide) rfl (fun q7 => absurd q7 (nI_ge (by omega) (by omega))) (fun q7 => ?_)
      refine r_aload_n 11 dX3_takes_10 rfl rfl rfl ?_
      refine r_iload_n 12 dX3_takes_11 rfl rfl ?_
      refine r_callV0 15 dX3_takes_12 rfl (tX3_taken hh hq) l_X3_42 mX3_taken rfl (by repeat (first | assumption | refine gs_eq ?_ | refine gs_ne (by omega) ?_ | exact is_of (by assumption) | refine gs_is ?_)) rfl (by decide) (Nat.le_of_ble_eq_true rfl) (by decide) (qI ?_)
      refine r_iload_n 16 dX3_takes_15 rfl rfl ?_
      refine r_icmp_ne 21 19 dX3_takes_16 (by decide) rfl (fun q16 => ?_) (fun q16 => ?_)
      · refine r_iinc (ls1 := [_, _, _]) 24 dX3_takes_21 rfl (by decide) rfl rfl (nI_1 i) rfl ?_
        refine r_goto 2 dX3_takes_24 (by decide) ?_
        exact ih (i + 1) (by omega) (by rw [← hu, decide_eq_false q16]; rfl)
      · refine r_iconst (v := 1) 20 dX3_takes_19 rfl (by decide) ?_
        refine r_bret dX3_takes_20 rfl (by first | exact Or.inl rfl | exact Or.inr rfl) (by decide) (by decide) ?_
        exact ⟨by rw [← hu, decide_eq_true q16]; rfl, rfl⟩
  refine Cl.of (ls := [some (.ref h), some (.int x), none]) rfl (by decide +kernel) (fun h => by cases h) (Nat.le_of_ble_eq_true rfl) rfl ?_
  refine r_iconst (v := nI 0) 1 dX3_takes_0 rfl (by decide) ?_
  refine r_istore_n (ls1 := [_, _, _]) 2 dX3_takes_1 rfl (by decide) rfl rfl ?_
  exact loop l.length 0 (by omega) rfl

theorem hpO_add {l : List HP} {a b c d e : Nat → Int32} {q : HP} (h : hpO l a b c d e) : hpO (l ++ [q]) (upd a l.length (nI q.1)) (upd b l.length (nI q.2.1)) (upd c l.length (nI q.2.2.1)) (upd d l.length (nI q.2.2.2.1)) (upd e l.length q.2.2.2.2) := by
  intro i z hz
  rw [List.getElem?_append] at hz
  by_cases hi : i < l.length
  · rw [if_pos hi] at hz
    have hne : i ≠ l.length := by omega
    obtain ⟨g1, g2, g3, g4, g5⟩ := h i z hz
    exact ⟨by rw [pk_un hne]; exact g1, by rw [pk_un hne]; exact g2, by rw [pk_un hne]; exact g3, by rw [pk_un hne]; exact g4, by rw [pk_un hne]; exact g5⟩
  · rw [if_neg hi] at hz
    have h1 : i - l.length < 1 := (List.getElem?_eq_some_iff.mp hz).1
    have h2 : i = l.length := by omega
    subst h2
    rw [Nat.sub_self] at hz
    cases hz
    exact ⟨pk_us, pk_us, pk_us, pk_us, pk_us⟩
set_option maxRecDepth 100000 in
theorem tX3_add {Γ : CT} {w : PW} {h : Nat} {l : List HP} {q : HP} (hh : isHp w h l) (h192 : l.length < 192) : Cl Γ yX3_add XX3_add 0 0 0 [.ref h, .int (nI q.1), .int (nI q.2.1), .int (nI q.2.2.1), .int (nI q.2.2.2.1), .int q.2.2.2.2] w (rN (toHp w h (l ++ [q]))) := by
  refine Cl.of (ls := [some (.ref h), some (.int (nI q.1)), some (.int (nI q.2.1)), some (.int (nI q.2.2.1)), some (.int (nI q.2.2.2.1)), some (.int q.2.2.2.2)]) rfl (by decide +kernel) (fun h => by cases h) (Nat.le_of_ble_eq_true rfl) rfl ?_
  obtain ⟨hl, ca, cb, cc, cd, ce, hO, h0, h1, h2, h3, h4, h5⟩ := id hh
  refine r_aload_n 1 dX3_add_0 rfl rfl rfl ?_
  refine r_getf 4 dX3_add_1 rfl f_X3_27.r (by repeat (first | assumption | refine gs_eq ?_ | refine gs_ne (by omega) ?_ | exact is_of (by assumption) | refine gs_is ?_)) rfl ?_
  refine r_if_lt 17 7 dX3_add_4 (by decide) rfl (fun q4 => absurd q4 (nI_pos (by omega))) (fun q4 => ?_)
  refine r_aload_n 8 dX3_add_7 rfl rfl rfl ?_
  refine r_getf 11 dX3_add_8 rfl f_X3_27.r (by repeat (first | assumption | refine gs_eq ?_ | refine gs_ne (by omega) ?_ | exact is_of (by assumption) | refine gs_is ?_)) rfl ?_
  refine r_sipush (v := nI 192) 14 dX3_add_11 rfl (by decide) ?_
  refine r_icmp_lt 18 17 dX3_add_14 (by decide) rfl (fun q14 => ?_) (fun q14 => absurd q14 (fun z => z (nI_lt (by omega) (by omega))))
  refine r_aload_n 19 dX3_add_18 rfl rfl rfl ?_
  refine r_getf 22 dX3_add_19 rfl f_X3_11.r (by repeat (first | assumption | refine gs_eq ?_ | refine gs_ne (by omega) ?_ | exact is_of (by assumption) | refine gs_is ?_)) rfl ?_
  refine r_aload_n 23 dX3_add_22 rfl rfl rfl ?_
  refine r_getf 26 dX3_add_23 rfl f_X3_27.r (by repeat (first | assumption | refine gs_eq ?_ | refine gs_ne (by omega) ?_ | exact is_of (by assumption) | refine gs_is ?_)) rfl ?_
  refine r_iload_n 27 dX3_add_26 rfl rfl ?_
  refine r_iast 28 dX3_add_27 rfl (l.length) (by repeat (first | assumption | refine gs_eq ?_ | refine gs_ne (by omega) ?_ | exact is_of (by assumption) | refine gs_is ?_)) rfl h192 (by decide) ?_
  refine r_aload_n 29 dX3_add_28 rfl rfl rfl ?_
  refine r_getf 32 dX3_add_29 rfl f_X3_15.r (by repeat (first | assumption | refine gs_eq ?_ | refine gs_ne (by omega) ?_ | exact is_of (by assumption) | refine gs_is ?_)) rfl ?_
  refine r_aload_n 33 dX3_add_32 rfl rfl rfl ?_
  refine r_getf 36 dX3_add_33 rfl f_X3_27.r (by repeat (first | assumption | refine gs_eq ?_ | refine gs_ne (by omega) ?_ | exact is_of (by assumption) | refine gs_is ?_)) rfl ?_
  refine r_iload_n 37 dX3_add_36 rfl rfl ?_
  refine r_iast 38 dX3_add_37 rfl (l.length) (by repeat (first | assumption | refine gs_eq ?_ | refine gs_ne (by omega) ?_ | exact is_of (by assumption) | refine gs_is ?_)) rfl h192 (by decide) ?_
  refine r_aload_n 39 dX3_add_38 rfl rfl rfl ?_
  refine r_getf 42 dX3_add_39 rfl f_X3_18.r (by repeat (first | assumption | refine gs_eq ?_ | refine gs_ne (by omega) ?_ | exact is_of (by assumption) | refine gs_is ?_)) rfl ?_
  refine r_aload_n 43 dX3_add_42 rfl rfl rfl ?_
  refine r_getf 46 dX3_add_43 rfl f_X3_27.r (by repeat (first | assumption | refine gs_eq ?_ | refine gs_ne (by omega) ?_ | exact is_of (by assumption) | refine gs_is ?_)) rfl ?_
  refine r_iload_n 47 dX3_add_46 rfl rfl ?_
  refine r_iast 48 dX3_add_47 rfl (l.length) (by repeat (first | assumption | refine gs_eq ?_ | refine gs_ne (by omega) ?_ | exact is_of (by assumption) | refine gs_is ?_)) rfl h192 (by decide) ?_
  refine r_aload_n 49 dX3_add_48 rfl rfl rfl ?_
  refine r_getf 52 dX3_add_49 rfl f_X3_21.r (by repeat (first | assumption | refine gs_eq ?_ | refine gs_ne (by omega) ?_ | exact is_of (by assumption) | refine gs_is ?_)) rfl ?_
  refine r_aload_n 53 dX3_add_52 rfl rfl rfl ?_
  refine r_getf 56 dX3_add_53 rfl f_X3_27.r (by repeat (first | assumption | refine gs_eq ?_ | refine gs_ne (by omega) ?_ | exact is_of (by assumption) | refine gs_is ?_)) rfl ?_
  refine r_iload 58 dX3_add_56 rfl rfl ?_
  refine r_iast 59 dX3_add_58 rfl (l.length) (by repeat (first | assumption | refine gs_eq ?_ | refine gs_ne (by omega) ?_ | exact is_of (by assumption) | refine gs_is ?_)) rfl h192 (by decide) ?_
  refine r_aload_n 60 dX3_add_59 rfl rfl rfl ?_
  refine r_getf 63 dX3_add_60 rfl f_X3_24.r (by repeat (first | assumption | refine gs_eq ?_ | refine gs_ne (by omega) ?_ | exact is_of (by assumption) | refine gs_is ?_)) rfl ?_
  refine r_aload_n 64 dX3_add_63 rfl rfl rfl ?_
  refine r_getf 67 dX3_add_64 rfl f_X3_27.r (by repeat (first | assumption | refine gs_eq ?_ | refine gs_ne (by omega) ?_ | exact is_of (by assumption) | refine gs_is ?_)) rfl ?_
  refine r_iload 69 dX3_add_67 rfl rfl ?_
  refine r_iast 70 dX3_add_69 rfl (l.length) (by repeat (first | assumption | refine gs_eq ?_ | refine gs_ne (by omega) ?_ | exact is_of (by assumption) | refine gs_is ?_)) rfl h192 (by decide) ?_
  refine r_aload_n 71 dX3_add_70 rfl rfl rfl ?_
  refine r_dup 72 dX3_add_71 rfl rfl ?_
  refine r_getf 75 dX3_add_72 rfl f_X3_27.r (by repeat (first | assumption | refine gs_eq ?_ | refine gs_ne (by omega) ?_ | exact is_of (by assumption) | refine gs_is ?_)) rfl ?_
  refine r_iconst (v := 1) 76 dX3_add_75 rfl (by decide) ?_
  refine r_iadd 77 dX3_add_76 rfl ?_
  refine r_putf (fs1 := [_, _, _, _, _, _]) 80 dX3_add_77 rfl f_X3_27 (by repeat (first | assumption | refine gs_eq ?_ | refine gs_ne (by omega) ?_ | exact is_of (by assumption) | refine gs_is ?_)) rfl (by simp only [List.length_cons, List.length_nil]; omega) rfl ?_
  refine r_vret dX3_add_80 rfl (by decide) (by decide) ?_
  refine ⟨rfl, (((((Fr.st ⟨by omega, by omega⟩).tr (Fr.st ⟨by omega, by omega⟩)).tr (Fr.st ⟨by omega, by omega⟩)).tr (Fr.st ⟨by omega, by omega⟩)).tr (Fr.st ⟨by omega, by omega⟩)).tr (Fr.st ⟨by omega, by omega⟩), by rw [List.length_append]; exact h192, _, _, _, _, _, hpO_add hO, ?_, ?_, ?_, ?_, ?_, ?_⟩
  · rw [List.length_append, show nI (l.length + [q].length) = nI l.length + 1 from nI_succ _]
    exact (by repeat (first | assumption | refine gs_eq ?_ | refine gs_ne (by omega) ?_ | exact is_of (by assumption) | refine gs_is ?_))
  · exact (by repeat (first | assumption | refine gs_eq ?_ | refine gs_ne (by omega) ?_ | exact is_of (by assumption) | refine gs_is ?_))
  · exact (by repeat (first | assumption | refine gs_eq ?_ | refine gs_ne (by omega) ?_ | exact is_of (by assumption) | refine gs_is ?_))
  · exact (by repeat (first | assumption | refine gs_eq ?_ | refine gs_ne (by omega) ?_ | exact is_of (by assumption) | refine gs_is ?_))
  · exact (by repeat (first | assumption | refine gs_eq ?_ | refine gs_ne (by omega) ?_ | exact is_of (by assumption) | refine gs_is ?_))
  · exact (by repeat (first | assumption | refine gs_eq ?_ | refine gs_ne (by omega) ?_ | exact is_of (by assumption) | refine gs_is ?_))

