/-! ===== the pad ===== -/
def chOK (f : Nat → Int32) : Prop := ∀ k, ∃ n, n < 65536 ∧ f k = nI n
def isPd (w : PW) (h : Nat) (pf : Nat → Int32) (pn : Nat) : Prop := w[h]? = some (oB 4 [.ref (h + 1), .int (nI pn)]) ∧ w[h + 1]? = some (aC 60 pf) ∧ pn ≤ 60 ∧ chOK pf
theorem isPd.o {w : PW} {h : Nat} {pf : Nat → Int32} {pn : Nat} (k : isPd w h pf pn) : w[h]? = some (oB 4 [.ref (h + 1), .int (nI pn)]) := k.1
theorem isPd.fr {w w1 : PW} {h : Nat} {pf : Nat → Int32} {pn : Nat} {S : Nat → Prop} (k : isPd w h pf pn) (hF : Fr w w1 S) (h0 : ¬ S h) (h1 : ¬ S (h + 1)) : isPd w1 h pf pn := ⟨hF.at h0 k.1, hF.at h1 k.2.1, k.2.2⟩
def pS (h : Nat) : Nat → Prop := fun q => q = h ∨ q = h + 1
theorem isPd.len {w : PW} {h : Nat} {pf : Nat → Int32} {pn pm : Nat} (k : isPd w h pf pn) (hm : pm ≤ 60) : isPd (w.set h (oB 4 [.ref (h + 1), .int (nI pm)])) h pf pm := ⟨gs_eq (is_of k.1), gs_ne (by omega) k.2.1, hm, k.2.2.2⟩
/-- a sign of a number of characters -/
def chO (c : Int64) (i : Int32) : Int32 := vp_nar .char (((((c.toUInt64 >>> (((8 * i : Int32)).toInt64.toUInt64 &&& Int64.toUInt64 63)).toInt64) &&& 255).toInt32).toUInt32 % 65536).toInt32
theorem chO_ok (c : Int64) (i : Int32) : ∃ n, n < 65536 ∧ chO c i = nI n := by
  unfold chO
  rw [pk_vc, pk_char]
  exact ⟨_, Nat.mod_lt _ (by decide), rfl⟩
theorem chOK.up {f : Nat → Int32} {k n : Nat} {x : Int32} (h : chOK f) (hn : n < 65536) (hx : x = nI n) : chOK (upd f k x) := by
  intro j
  by_cases e : j = k
  · subst e
    rw [pk_us]
    exact ⟨n, hn, hx⟩
  · rw [pk_un e]
    exact h j
theorem m1_sub (x : Int32) : x + Int32.ofInt (-1) = x - 1 := by rw [Int32.sub_eq_add_neg]; rfl
def badC (rest : Int64) : Bool := decide (rest &&& 255 < 33 ∨ 126 < rest &&& 255)
def shr8 (x : Int64) : Int64 := (x.toUInt64 >>> ((8 : Int32).toInt64.toUInt64 &&& Int64.toUInt64 63)).toInt64
def nsO : Nat → Int64 → Nat → Nat
  | 0, _, n => n
  | m + 1, r, n => if r = 0 then n else if badC r = true then 0 else nsO m (shr8 r) (n + 1)
theorem nsO_le : ∀ (m : Nat) (r : Int64) (n : Nat), nsO m r n ≤ n + m
  | 0, _, n => Nat.le_refl _
  | m + 1, r, n => by
    unfold nsO
    split
    · omega
    · split
      · omega
      · have := nsO_le m (shr8 r) (n + 1)
        omega
def apF (c : Int64) (pf : Nat → Int32) (pn : Nat) : Nat → (Nat → Int32)
  | 0 => pf
  | i + 1 => apF c (upd pf pn (chO c (nI i))) (pn + 1) i
set_option maxRecDepth 100000 in
theorem tX4_numberOfSigns {Γ : CT} {w : PW} {c : Int64}  : Cl Γ yX4_numberOfSigns XX4_numberOfSigns 0 0 0 [.long c] w (rI (nI (nsO 8 c 0)) w) := by
  have loop : ∀ (m i : Nat) (r : Int64) (x5 : Option Value), i + m = 8 → (nsO m r i = nsO 8 c 0) → Rn Γ XX4_numberOfSigns (rmO 0 0 0) none (FinM (rI (nI (nsO 8 c 0)) w) 0 0) 0 0 w 4 [some (.long c), none, some (.int (nI i)), some (.long r), none, x5, none] [] := by
    intro m
    induction m with
    | zero =>
      intro i r x5 hi hu
      have h9 : i = 8 := by omega
      subst h9
      refine r_iload_n 5 dX4_numberOfSigns_4 rfl rfl ?_
      refine r_bipush (v := nI 8) 7 dX4_numberOfSigns_5 rfl (by decide) ?_
      refine r_icmp_ge 54 10 dX4_numberOfSigns_7 (by decide) rfl (fun q7 => ?_) (fun q7 => absurd q7 (fun z => z (nI_le (by omega) (by omega))))
      refine r_iload_n 55 dX4_numberOfSigns_54 rfl rfl ?_
      refine r_iret dX4_numberOfSigns_55 rfl (by decide) (by decide) ?_
      exact ⟨by rw [← hu]; rfl, rfl⟩
    | succ m ih =>
      intro i r x5 hi hu
      rw [nsO] at hu
      refine r_iload_n 5 dX4_numberOfSigns_4 rfl rfl ?_
      refine r_bipush (v := nI 8) 7 dX4_numberOfSigns_5 rfl (by decide) ?_
      refine r_icmp_ge 54 10 dX4_numberOfSigns_7 (by decide) rfl (fun q7 => absurd q7 (nI_ge (by omega) (by omega))) (fun q7 => ?_)
      refine r_lload_n 11 dX4_numberOfSigns_10 rfl rfl ?_
      refine r_lconst (v := 0) 12 dX4_numberOfSigns_11 rfl (by decide) ?_
      refine r_lcmp 13 dX4_numberOfSigns_12 rfl ?_
      refine r_if_eq 54 16 dX4_numberOfSigns_13 (by decide) rfl (fun q13 => ?_) (fun q13 => ?_)
      · refine r_iload_n 55 dX4_numberOfSigns_54 rfl rfl ?_
        refine r_iret dX4_numberOfSigns_55 rfl (by decide) (by decide) ?_
        exact ⟨by rw [if_pos (lc_0 q13)] at hu; rw [← hu], rfl⟩
      · refine r_lload_n 17 dX4_numberOfSigns_16 rfl rfl ?_
        refine r_ldc2 20 dX4_numberOfSigns_17 rfl k_X4_19 ?_
        refine r_land 21 dX4_numberOfSigns_20 rfl ?_
        refine r_lstore (ls1 := [_, _, _, _, _, _, _]) 23 dX4_numberOfSigns_21 rfl (by decide) rfl rfl ?_
        refine r_lload 25 dX4_numberOfSigns_23 rfl rfl ?_
        refine r_ldc2 28 dX4_numberOfSigns_25 rfl k_X4_21 ?_
        refine r_lcmp 29 dX4_numberOfSigns_28 rfl ?_
        refine r_if_lt 41 32 dX4_numberOfSigns_29 (by decide) rfl (fun q29 => ?_) (fun q29 => ?_)
        · refine r_iconst (v := 0) 42 dX4_numberOfSigns_41 rfl (by decide) ?_
          refine r_iret dX4_numberOfSigns_42 rfl (by decide) (by decide) ?_
          first
            | exact ⟨by rw [if_neg (lc_n q13), if_pos (show badC r = true from decide_eq_true (Or.inl ((lg_cmp_lt _ _).mp q29)))] at hu; rw [← hu]; rfl, rfl⟩
            | exact ⟨by rw [if_neg (lc_n q13), if_pos (show badC r = true from decide_eq_true (Or.inr (Int64.not_le.mp (fun z => q38 ((lg_cmp_le _ _).mpr z)))))] at hu; rw [← hu]; rfl, rfl⟩
        · refine r_lload 34 dX4_numberOfSigns_32 rfl rfl ?_
          refine r_ldc2 37 dX4_numberOfSigns_34 rfl k_X4_23 ?_
          refine r_lcmp 38 dX4_numberOfSigns_37 rfl ?_
          refine r_if_le 43 41 dX4_numberOfSigns_38 (by decide) rfl (fun q38 => ?_) (fun q38 => ?_)
          · refine r_lload_n 44 dX4_numberOfSigns_43 rfl rfl ?_
            refine r_bipush (v := 8) 46 dX4_numberOfSigns_44 rfl (by decide) ?_
            refine r_lushr 47 dX4_numberOfSigns_46 rfl rfl ?_
            refine r_lstore_n (ls1 := [_, _, _, _, _, _, _]) 48 dX4_numberOfSigns_47 rfl (by decide) rfl rfl ?_
            refine r_iinc (ls1 := [_, _, _, _, _, _, _]) 51 dX4_numberOfSigns_48 rfl (by decide) rfl rfl (nI_1 i) rfl ?_
            refine r_goto 4 dX4_numberOfSigns_51 (by decide) ?_
            exact ih (i + 1) _ _ (by omega) (by rw [← hu, if_neg (lc_n q13), if_neg (by rw [badC, decide_eq_false (fun z => z.elim (fun a => q29 ((lg_cmp_lt _ _).mpr a)) (fun a => Int64.not_lt.mpr ((lg_cmp_le _ _).mp q38) a))]; decide)]; rfl)
          · refine r_iconst (v := 0) 42 dX4_numberOfSigns_41 rfl (by decide) ?_
            refine r_iret dX4_numberOfSigns_42 rfl (by decide) (by decide) ?_
            first
              | exact ⟨by rw [if_neg (lc_n q13), if_pos (show badC r = true from decide_eq_true (Or.inl ((lg_cmp_lt _ _).mp q29)))] at hu; rw [← hu]; rfl, rfl⟩
              | exact ⟨by rw [if_neg (lc_n q13), if_pos (show badC r = true from decide_eq_true (Or.inr (Int64.not_le.mp (fun z => q38 ((lg_cmp_le _ _).mpr z)))))] at hu; rw [← hu]; rfl, rfl⟩
  refine Cl.of (ls := [some (.long c), none, none, none, none, none, none]) rfl (by decide +kernel) (fun h => by cases h) (Nat.le_of_ble_eq_true rfl) rfl ?_
  refine r_iconst (v := nI 0) 1 dX4_numberOfSigns_0 rfl (by decide) ?_
  refine r_istore_n (ls1 := [_, _, _, _, _, _, _]) 2 dX4_numberOfSigns_1 rfl (by decide) rfl rfl ?_
  refine r_lload_n 3 dX4_numberOfSigns_2 rfl rfl ?_
  refine r_lstore_n (ls1 := [_, _, _, _, _, _, _]) 4 dX4_numberOfSigns_3 rfl (by decide) rfl rfl ?_
  exact loop 8 0 _ _ rfl rfl

set_option maxRecDepth 100000 in
theorem tX4_append {Γ : CT} {w : PW} {h : Nat} {pf : Nat → Int32} {pn nn : Nat} {c : Int64} (hp : isPd w h pf pn) (hnn : pn + nn ≤ 60) : Cl Γ yX4_append XX4_append 0 0 0 [.ref h, .long c, .int (nI nn)] w (rN (fun w1 => Fr w w1 (pS h) ∧ isPd w1 h (apF c pf pn nn) (pn + nn))) := by
  have loop : ∀ (i : Nat) (u : PW) (x : Int32) (pg : Nat → Int32) (pm : Nat), x = nI i - 1 → i ≤ nn → pm + i = pn + nn → apF c pg pm i = apF c pf pn nn → Fr w u (pS h) → isPd u h pg pm → Rn Γ XX4_append (rmO 0 0 0) none (FinM (rN (fun w1 => Fr w w1 (pS h) ∧ isPd w1 h (apF c pf pn nn) (pn + nn))) 0 0) 0 0 u 5 [some (.ref h), some (.long c), none, some (.int (nI nn)), some (.int x)] [] := by
    intro i
    induction i with
    | zero =>
      intro u x pg pm hx hi hpm hap hF hu
      refine r_iload 7 dX4_append_5 rfl rfl ?_
      refine r_if_lt 65 10 dX4_append_7 (by decide) rfl (fun q7 => ?_) (fun q7 => absurd q7 (fun z => z (by rw [hx]; decide)))
      refine r_vret dX4_append_65 rfl (by decide) (by decide) ?_
      exact ⟨rfl, hF, by rw [← hap, show pn + nn = pm by omega]; exact hu⟩
    | succ i ih =>
      intro u x pg pm hx hi hpm hap hF hu
      have hxi : x = nI i := by rw [hx, nI_pred]
      subst hxi
      obtain ⟨hu0, hu1, hu2, hu3⟩ := id hu
      obtain ⟨cn, hcn, hcx⟩ := chO_ok c (nI i)
      refine r_iload 7 dX4_append_5 rfl rfl ?_
      refine r_if_lt 65 10 dX4_append_7 (by decide) rfl (fun q7 => absurd q7 (nI_pos (by omega))) (fun q7 => ?_)
      refine r_aload_n 11 dX4_append_10 rfl rfl rfl ?_
      refine r_getf 14 dX4_append_11 rfl f_X4_15.r (by repeat (first | assumption | exact isPd.o (by assumption) | refine gs_eq ?_ | refine gs_ne (by omega) ?_ | exact is_of (by assumption) | refine gs_is ?_)) rfl ?_
      refine r_if_lt 26 17 dX4_append_14 (by decide) rfl (fun q14 => absurd q14 (nI_pos (by omega))) (fun q14 => ?_)
      refine r_aload_n 18 dX4_append_17 rfl rfl rfl ?_
      refine r_getf 21 dX4_append_18 rfl f_X4_15.r (by repeat (first | assumption | exact isPd.o (by assumption) | refine gs_eq ?_ | refine gs_ne (by omega) ?_ | exact is_of (by assumption) | refine gs_is ?_)) rfl ?_
      refine r_bipush (v := nI 60) 23 dX4_append_21 rfl (by decide) ?_
      refine r_icmp_lt 27 26 dX4_append_23 (by decide) rfl (fun q23 => ?_) (fun q23 => absurd q23 (fun z => z (nI_lt (by omega) (by decide))))
      refine r_aload_n 28 dX4_append_27 rfl rfl rfl ?_
      refine r_getf 31 dX4_append_28 rfl f_X4_11.r (by repeat (first | assumption | exact isPd.o (by assumption) | refine gs_eq ?_ | refine gs_ne (by omega) ?_ | exact is_of (by assumption) | refine gs_is ?_)) rfl ?_
      refine r_aload_n 32 dX4_append_31 rfl rfl rfl ?_
      refine r_getf 35 dX4_append_32 rfl f_X4_15.r (by repeat (first | assumption | exact isPd.o (by assumption) | refine gs_eq ?_ | refine gs_ne (by omega) ?_ | exact is_of (by assumption) | refine gs_is ?_)) rfl ?_
      refine r_lload_n 36 dX4_append_35 rfl rfl ?_
      refine r_bipush (v := 8) 38 dX4_append_36 rfl (by decide) ?_
      refine r_iload 40 dX4_append_38 rfl rfl ?_
      refine r_imul 41 dX4_append_40 rfl ?_
      refine r_lushr 42 dX4_append_41 rfl rfl ?_
      refine r_ldc2 45 dX4_append_42 rfl k_X4_19 ?_
      refine r_land 46 dX4_append_45 rfl ?_
      refine r_l2i 47 dX4_append_46 rfl rfl ?_
      refine r_i2c 48 dX4_append_47 rfl rfl ?_
      refine r_cast 49 dX4_append_48 rfl (pm) (by repeat (first | assumption | exact isPd.o (by assumption) | refine gs_eq ?_ | refine gs_ne (by omega) ?_ | exact is_of (by assumption) | refine gs_is ?_)) rfl (by omega) (by decide) ?_
      have hpd : isPd (u.set (h + 1) (aC 60 (upd pg pm (chO c (nI i))))) h (upd pg pm (chO c (nI i))) pm := ⟨gs_ne (by omega) hu0, gs_eq (is_of hu1), hu2, hu3.up hcn hcx⟩
      refine r_aload_n 50 dX4_append_49 rfl rfl rfl ?_
      refine r_dup 51 dX4_append_50 rfl rfl ?_
      refine r_getf 54 dX4_append_51 rfl f_X4_15.r (by repeat (first | assumption | exact isPd.o (by assumption) | refine gs_eq ?_ | refine gs_ne (by omega) ?_ | exact is_of (by assumption) | refine gs_is ?_)) rfl ?_
      refine r_iconst (v := 1) 55 dX4_append_54 rfl (by decide) ?_
      refine r_iadd 56 dX4_append_55 rfl ?_
      refine r_putf (fs1 := [_, _]) 59 dX4_append_56 rfl f_X4_15 (by repeat (first | assumption | exact isPd.o (by assumption) | refine gs_eq ?_ | refine gs_ne (by omega) ?_ | exact is_of (by assumption) | refine gs_is ?_)) rfl (by simp only [List.length_cons, List.length_nil]; omega) rfl ?_
      refine r_iinc (ls1 := [_, _, _, _, _]) 62 dX4_append_59 rfl (by decide) rfl rfl rfl rfl ?_
      refine r_goto 5 dX4_append_62 (by decide) ?_
      exact ih _ _ _ (pm + 1) (m1_sub _) (by omega) (by omega) hap ((hF.sr (Or.inr rfl)).sr (Or.inl rfl)) (by rw [show nI pm + 1 = nI (pm + 1) from nI_1 pm]; exact hpd.len (by omega))
  refine Cl.of (ls := [some (.ref h), some (.long c), none, some (.int (nI nn)), none]) rfl (by decide +kernel) (fun h => by cases h) (Nat.le_of_ble_eq_true rfl) rfl ?_
  refine r_iload_n 1 dX4_append_0 rfl rfl ?_
  refine r_iconst (v := 1) 2 dX4_append_1 rfl (by decide) ?_
  refine r_isub 3 dX4_append_2 rfl ?_
  refine r_istore (ls1 := [_, _, _, _, _]) 5 dX4_append_3 rfl (by decide) rfl rfl ?_
  exact loop nn w _ pf pn rfl (Nat.le_refl _) rfl rfl Fr.rf hp

def sgO (pf : Nat → Int32) (pn i : Nat) : Int32 := if i < pn then pf i else 44
set_option maxRecDepth 100000 in
theorem tX4_signAt {Γ : CT} {w : PW} {h : Nat} {pf : Nat → Int32} {pn i : Nat} (hp : isPd w h pf pn) (hi : i ≤ 60) : Cl Γ yX4_signAt XX4_signAt 0 0 0 [.ref h, .int (nI i)] w (rI (sgO pf pn i) w) := by
  refine Cl.of (ls := [some (.ref h), some (.int (nI i))]) rfl (by decide +kernel) (fun h => by cases h) (Nat.le_of_ble_eq_true rfl) rfl ?_
  obtain ⟨h0, h1, h2, h3⟩ := id hp
  obtain ⟨cn, hcn, hcx⟩ := h3 i
  refine r_iload_n 1 dX4_signAt_0 rfl rfl ?_
  refine r_if_lt 27 4 dX4_signAt_1 (by decide) rfl (fun q1 => absurd q1 (nI_pos (by omega))) (fun q1 => ?_)
  refine r_iload_n 5 dX4_signAt_4 rfl rfl ?_
  refine r_aload_n 6 dX4_signAt_5 rfl rfl rfl ?_
  refine r_getf 9 dX4_signAt_6 rfl f_X4_15.r (by repeat (first | assumption | exact isPd.o (by assumption) | refine gs_eq ?_ | refine gs_ne (by omega) ?_ | exact is_of (by assumption) | refine gs_is ?_)) rfl ?_
  refine r_icmp_ge 27 12 dX4_signAt_9 (by decide) rfl (fun q9 => ?_) (fun q9 => ?_)
  · refine r_bipush (v := nI 44) 29 dX4_signAt_27 rfl (by decide) ?_
    refine r_cret dX4_signAt_29 rfl (n := _) (by first | exact hcx | rfl) (by first | exact hcn | decide) (by decide) (by decide) ?_
    first
      | exact absurd q15 (nI_ge (by omega) (by decide))
      | exact ⟨by rw [sgO, if_pos h9], rfl⟩
      | exact ⟨by rw [sgO, if_neg (fun z => absurd (nI_lt z (by omega)) (Int32.not_lt.mpr q9))]; rfl, rfl⟩
  · refine r_iload_n 13 dX4_signAt_12 rfl rfl ?_
    refine r_bipush (v := nI 60) 15 dX4_signAt_13 rfl (by decide) ?_
    have h9 : i < pn := by
      rcases Nat.lt_or_ge i pn with h9 | h9
      · exact h9
      · exact absurd (nI_le h9 (by omega)) q9
    refine r_icmp_ge 27 18 dX4_signAt_15 (by decide) rfl (fun q15 => ?_) (fun q15 => ?_)
    · refine r_bipush (v := nI 44) 29 dX4_signAt_27 rfl (by decide) ?_
      refine r_cret dX4_signAt_29 rfl (n := _) (by first | exact hcx | rfl) (by first | exact hcn | decide) (by decide) (by decide) ?_
      first
        | exact absurd q15 (nI_ge (by omega) (by decide))
        | exact ⟨by rw [sgO, if_pos h9], rfl⟩
        | exact ⟨by rw [sgO, if_neg (fun z => absurd (nI_lt z (by omega)) (Int32.not_lt.mpr q9))]; rfl, rfl⟩
    · refine r_aload_n 19 dX4_signAt_18 rfl rfl rfl ?_
      refine r_getf 22 dX4_signAt_19 rfl f_X4_11.r (by repeat (first | assumption | exact isPd.o (by assumption) | refine gs_eq ?_ | refine gs_ne (by omega) ?_ | exact is_of (by assumption) | refine gs_is ?_)) rfl ?_
      refine r_iload_n 23 dX4_signAt_22 rfl rfl ?_
      refine r_cald 24 dX4_signAt_23 rfl (i) (by repeat (first | assumption | exact isPd.o (by assumption) | refine gs_eq ?_ | refine gs_ne (by omega) ?_ | exact is_of (by assumption) | refine gs_is ?_)) rfl (by omega) (by decide) ?_
      refine r_goto 29 dX4_signAt_24 (by decide) ?_
      refine r_cret dX4_signAt_29 rfl (n := _) (by first | exact hcx | rfl) (by first | exact hcn | decide) (by decide) (by decide) ?_
      first
        | exact absurd q15 (nI_ge (by omega) (by decide))
        | exact ⟨by rw [sgO, if_pos h9], rfl⟩
        | exact ⟨by rw [sgO, if_neg (fun z => absurd (nI_lt z (by omega)) (Int32.not_lt.mpr q9))]; rfl, rfl⟩

def stepF (pl : Nat) (num c : Int32) : Option (Nat × Int32) :=
  if 48 ≤ c ∧ c ≤ 57 then
    (if ¬ (pl = 0 ∨ pl = 2) ∧ num = 0 then none
     else if inI ((if pl = 0 ∨ pl = 2 then 0 else num * 10) + (c - 48)) 0 47 = true then some (if pl = 0 ∨ pl = 2 then pl + 1 else pl, (if pl = 0 ∨ pl = 2 then 0 else num * 10) + (c - 48)) else none)
  else if pl = 1 ∧ (c = 45 ∨ c = 120) then some (2, num)
  else if pl = 3 ∧ c = 44 then some (0, num)
  else none
def ffO (pf : Nat → Int32) (pn : Nat) : Nat → Nat → Nat → Int32 → Int32
  | 0, _, pl, _ => if pl = 3 then -6 else nI pn
  | m + 1, i, pl, num => match stepF pl num (pf i) with
    | none => nI i
    | some q => ffO pf pn m (i + 1) q.1 q.2
theorem stepF_le {pl : Nat} {num c : Int32} {q : Nat × Int32} (h : stepF pl num c = some q) (hpl : pl ≤ 3) : q.1 ≤ 3 := by
  unfold stepF at h
  by_cases a : 48 ≤ c ∧ c ≤ 57
  · rw [if_pos a] at h
    by_cases b : ¬ (pl = 0 ∨ pl = 2) ∧ num = 0
    · rw [if_pos b] at h; cases h
    · rw [if_neg b] at h
      cases hz : inI ((if pl = 0 ∨ pl = 2 then 0 else num * 10) + (c - 48)) 0 47 with
      | false => rw [hz] at h; cases h
      | true =>
        rw [hz, if_pos rfl] at h
        have := Option.some.inj h
        subst this
        show (if pl = 0 ∨ pl = 2 then pl + 1 else pl) ≤ 3
        split <;> omega
  · rw [if_neg a] at h
    by_cases b : pl = 1 ∧ (c = 45 ∨ c = 120)
    · rw [if_pos b] at h; cases h; exact Nat.le_of_ble_eq_true rfl
    · rw [if_neg b] at h
      by_cases d : pl = 3 ∧ c = 44
      · rw [if_pos d] at h; cases h; exact Nat.le_of_ble_eq_true rfl
      · rw [if_neg d] at h; cases h
