/-! ===== the model: boards at work, hops listed ===== -/
abbrev MW : Type := (Nat → Int32) × (Nat → Int32) × (Nat → Int32) × (Nat → Int32) × (Nat → Int32) × (Nat → Int32) × (Nat → Int32) × (Nat → Int32) × (Nat → Int32)
abbrev oM (pm ty rm sp wr : Int32) : PC := oB 7 [.ref 44, .ref 45, .ref 46, .ref 47, .int pm, .ref 48, .int ty, .ref 49, .ref 50, .ref 51, .ref 52, .ref 53, .ref 54, .ref 55, .ref 56, .ref 57, .ref 58, .int rm, .int sp, .int wr]
/-- the boards at work: 49 boards, 50 sides, 51 chains, 52 how many hops, 53 from, 54 ways, 55 steps, 56 goals, 57 taken -/
def isW (w : PW) (W : MW) : Prop := w[49]? = some (aI 192 W.1) ∧ w[50]? = some (aI 4 W.2.1) ∧ w[51]? = some (aI 4 W.2.2.1) ∧ w[52]? = some (aI 4 W.2.2.2.1) ∧ w[53]? = some (aI 6000 W.2.2.2.2.1) ∧ w[54]? = some (aI 6000 W.2.2.2.2.2.1) ∧ w[55]? = some (aI 6000 W.2.2.2.2.2.2.1) ∧ w[56]? = some (aI 6000 W.2.2.2.2.2.2.2.1) ∧ w[57]? = some (aI 6000 W.2.2.2.2.2.2.2.2)
def wS (q : Nat) : Prop := 49 ≤ q ∧ q < 58
def bdA (W : MW) (L : Nat) (f : Nat → Int32) : Prop := ∀ s, s < 48 → W.1 (48 * L + s) = f s
def lsA (W : MW) (L : Nat) (l : List HP) : Prop := l.length ≤ 192 ∧ W.2.2.2.1 L = nI l.length ∧ ∀ (i : Nat) (q : HP), l[i]? = some q → W.2.2.2.2.1 (1500 * L + i) = nI q.1 ∧ W.2.2.2.2.2.1 (1500 * L + i) = nI q.2.2.1 ∧ W.2.2.2.2.2.2.1 (1500 * L + i) = nI q.2.2.2.1 ∧ W.2.2.2.2.2.2.2.1 (1500 * L + i) = nI q.2.1 ∧ W.2.2.2.2.2.2.2.2 (1500 * L + i) = q.2.2.2.2
/-- what lies before a place of the lists is the same -/
def smH (W V : MW) (L : Nat) : Prop := (∀ j, j < L → V.2.2.2.1 j = W.2.2.2.1 j) ∧ ∀ j, j < 1500 * L → V.2.2.2.2.1 j = W.2.2.2.2.1 j ∧ V.2.2.2.2.2.1 j = W.2.2.2.2.2.1 j ∧ V.2.2.2.2.2.2.1 j = W.2.2.2.2.2.2.1 j ∧ V.2.2.2.2.2.2.2.1 j = W.2.2.2.2.2.2.2.1 j ∧ V.2.2.2.2.2.2.2.2 j = W.2.2.2.2.2.2.2.2 j
/-- boards, sides and chains are the same, and the lists of the levels below -/
def smL (W V : MW) (L : Nat) : Prop := V.1 = W.1 ∧ V.2.1 = W.2.1 ∧ V.2.2.1 = W.2.2.1 ∧ smH W V L
theorem smH.rf {W : MW} {L : Nat} : smH W W L := ⟨fun _ _ => rfl, fun _ _ => ⟨rfl, rfl, rfl, rfl, rfl⟩⟩
theorem smH.tr {W V U : MW} {L : Nat} (h : smH W V L) (k : smH V U L) : smH W U L := ⟨fun j hj => (k.1 j hj).trans (h.1 j hj), fun j hj => ⟨(k.2 j hj).1.trans (h.2 j hj).1, (k.2 j hj).2.1.trans (h.2 j hj).2.1, (k.2 j hj).2.2.1.trans (h.2 j hj).2.2.1, (k.2 j hj).2.2.2.1.trans (h.2 j hj).2.2.2.1, (k.2 j hj).2.2.2.2.trans (h.2 j hj).2.2.2.2⟩⟩
theorem smL.rf {W : MW} {L : Nat} : smL W W L := ⟨rfl, rfl, rfl, smH.rf⟩
theorem smL.tr {W V U : MW} {L : Nat} (h : smL W V L) (k : smL V U L) : smL W U L := ⟨k.1.trans h.1, k.2.1.trans h.2.1, k.2.2.1.trans h.2.2.1, h.2.2.2.tr k.2.2.2⟩
theorem lsA.lo {W V : MW} {L M : Nat} {l : List HP} (h : lsA W L l) (k : smH W V M) (hL : L < M) : lsA V L l := by
  obtain ⟨h1, h2, h3⟩ := h
  refine ⟨h1, (k.1 L hL).trans h2, fun i q hq => ?_⟩
  have hi : i < l.length := (List.getElem?_eq_some_iff.mp hq).1
  obtain ⟨a, b, c, d, e⟩ := k.2 (1500 * L + i) (by omega)
  obtain ⟨a1, b1, c1, d1, e1⟩ := h3 i q hq
  exact ⟨a.trans a1, b.trans b1, c.trans c1, d.trans d1, e.trans e1⟩
theorem bdA.sm {W V : MW} {L : Nat} {f : Nat → Int32} (h : bdA W L f) (k : V.1 = W.1) : bdA V L f := fun s hs => by rw [k]; exact h s hs
def toLs (w : PW) (W : MW) (L : Nat) (l : List HP) : PW → Prop := fun w1 => Fr w w1 wS ∧ ∃ V, isW w1 V ∧ lsA V L l ∧ smL W V L
theorem toLs.tr {w w1 w2 : PW} {W V : MW} {L : Nat} {l : List HP} (hF : Fr w w1 wS) (hs : smL W V L) (k : toLs w1 V L l w2) : toLs w W L l w2 := by
  obtain ⟨k1, U, k2, k3, k4⟩ := k
  exact ⟨hF.tr k1, U, k2, k3, hs.tr k4⟩
def okP (p : Int32) : Prop := p = -6 ∨ p = 0 ∨ p = 1 ∨ p = 2 ∨ p = 3
def okF (f : Nat → Int32) : Prop := ∀ s, s < 48 → okP (f s)
theorem sdM_sd {p : Int32} (h : okP p) : (if p = -6 then -6 else p / 2) = sdO p := by
  rcases h with rfl | rfl | rfl | rfl | rfl <;> decide
theorem sdO_01 {p : Int32} (h : okP p) (hn : ¬ p = -6) : sdO p = 0 ∨ sdO p = 1 := by
  rcases h with rfl | rfl | rfl | rfl | rfl
  · exact absurd rfl hn
  all_goals decide
theorem okP_sd {p : Int32} (h : sdO p = 0 ∨ sdO p = 1) : ¬ p = -6 := by
  rintro rfl
  rcases h with h | h <;> exact absurd h (by decide)
set_option maxRecDepth 100000 in
theorem tX7_pieceAt {Γ : CT} {w : PW} {pm ty rm sp wr : Int32} {W : MW} {L s : Nat} {f : Nat → Int32} (ho : w[43]? = some (oM pm ty rm sp wr)) (hW : isW w W) (hb : bdA W L f) (hL : L < 4) (hs : s < 48) : Cl Γ yX7_pieceAt XX7_pieceAt 0 0 0 [.ref 43, .int (nI L), .int (nI s)] w (rI (f s) w) := by
  refine Cl.of (ls := [some (.ref 43), some (.int (nI L)), some (.int (nI s))]) rfl (by decide +kernel) (fun h => by cases h) (Nat.le_of_ble_eq_true rfl) rfl ?_
  obtain ⟨B, sd, ch, hm, fr, wy, gs, gl, tk⟩ := W
  obtain ⟨w49, w50, w51, w52, w53, w54, w55, w56, w57⟩ : w[49]? = some (aI 192 B) ∧ w[50]? = some (aI 4 sd) ∧ w[51]? = some (aI 4 ch) ∧ w[52]? = some (aI 4 hm) ∧ w[53]? = some (aI 6000 fr) ∧ w[54]? = some (aI 6000 wy) ∧ w[55]? = some (aI 6000 gs) ∧ w[56]? = some (aI 6000 gl) ∧ w[57]? = some (aI 6000 tk) := id hW
  have e : B (48 * L + s) = f s := hb s hs
  refine r_aload_n 1 dX7_pieceAt_0 rfl rfl rfl ?_
  refine r_getf 4 dX7_pieceAt_1 rfl f_X7_27.r (by repeat (first | assumption | refine gs_eq ?_ | refine gs_ne (by omega) ?_ | exact is_of (by assumption) | refine gs_is ?_)) rfl ?_
  refine r_bipush (v := nI 48) 6 dX7_pieceAt_4 rfl (by decide) ?_
  refine r_iload_n 7 dX7_pieceAt_6 rfl rfl ?_
  refine r_imul 8 dX7_pieceAt_7 rfl ?_
  refine r_iload_n 9 dX7_pieceAt_8 rfl rfl ?_
  refine r_iadd 10 dX7_pieceAt_9 rfl ?_
  refine r_iald 11 dX7_pieceAt_10 rfl (48 * L + s) (by repeat (first | assumption | refine gs_eq ?_ | refine gs_ne (by omega) ?_ | exact is_of (by assumption) | refine gs_is ?_)) (by rw [pk_mul, nI_add]) (by omega) (by decide) ?_
  rw [e]
  refine r_iret dX7_pieceAt_11 rfl (by decide) (by decide) ?_
  exact ⟨rfl, rfl⟩

set_option maxRecDepth 100000 in
theorem tX7_isEmpty {Γ : CT} {w : PW} {pm ty rm sp wr : Int32} {W : MW} {L s : Nat} {f : Nat → Int32} (ho : w[43]? = some (oM pm ty rm sp wr)) (hW : isW w W) (hb : bdA W L f) (hL : L < 4) (hs : s < 48) : Cl Γ yX7_isEmpty XX7_isEmpty 1 0 0 [.ref 43, .int (nI L), .int (nI s)] w (rI (bI (decide (f s = -6))) w) := by
  refine Cl.of (ls := [some (.ref 43), some (.int (nI L)), some (.int (nI s))]) rfl (by decide +kernel) (fun h => by cases h) (Nat.le_of_ble_eq_true rfl) rfl ?_
  refine r_aload_n 1 dX7_isEmpty_0 rfl rfl rfl ?_
  refine r_iload_n 2 dX7_isEmpty_1 rfl rfl ?_
  refine r_iload_n 3 dX7_isEmpty_2 rfl rfl ?_
  refine r_callV0 6 dX7_isEmpty_3 rfl (tX7_pieceAt ho hW hb hL hs) l_X7_79 mX7_pieceAt rfl (by repeat (first | assumption | refine gs_eq ?_ | refine gs_ne (by omega) ?_ | exact is_of (by assumption) | refine gs_is ?_)) rfl (by decide) (Nat.le_of_ble_eq_true rfl) (by decide) (qI ?_)
  refine r_bipush (v := (-6)) 8 dX7_isEmpty_6 rfl (by decide) ?_
  refine r_icmp_ne 15 11 dX7_isEmpty_8 (by decide) rfl (fun q8 => ?_) (fun q8 => ?_)
  · refine r_iconst (v := 0) 16 dX7_isEmpty_15 rfl (by decide) ?_
    refine r_bret dX7_isEmpty_16 rfl (by first | exact Or.inl rfl | exact Or.inr rfl) (by decide) (by decide) ?_
    first | exact ⟨by rw [bI_of q8], rfl⟩ | exact ⟨by rw [bI_no q8], rfl⟩
  · refine r_iconst (v := 1) 12 dX7_isEmpty_11 rfl (by decide) ?_
    refine r_goto 16 dX7_isEmpty_12 (by decide) ?_
    refine r_bret dX7_isEmpty_16 rfl (by first | exact Or.inl rfl | exact Or.inr rfl) (by decide) (by decide) ?_
    first | exact ⟨by rw [bI_of q8], rfl⟩ | exact ⟨by rw [bI_no q8], rfl⟩

set_option maxRecDepth 100000 in
theorem tX7_goesWay {Γ : CT} {w : PW} {c : PC} {p : Int32} {way : Nat} (ho : w[43]? = some c) (hp : okP p) (hn : ¬ p = -6) (hw : way < 4) : Cl Γ yX7_goesWay XX7_goesWay 1 0 0 [.ref 43, .int p, .int (nI way)] w (rI (bI (mayG p (nI way))) w) := by
  refine Cl.of (ls := [some (.ref 43), some (.int p), some (.int (nI way))]) rfl (by decide +kernel) (fun h => by cases h) (Nat.le_of_ble_eq_true rfl) rfl ?_
  refine r_iload_n 1 dX7_goesWay_0 rfl rfl ?_
  refine r_callS0 4 dX7_goesWay_1 rfl (tX7_isKing) l_X7_83 mX7_isKing rfl (by decide) (Nat.le_of_ble_eq_true rfl) (by decide) (qI ?_)
  refine r_if_ne 32 7 dX7_goesWay_4 (by decide) rfl (fun q4 => ?_) (fun q4 => ?_)
  · refine r_iconst (v := 1) 33 dX7_goesWay_32 rfl (by decide) ?_
    refine r_goto 37 dX7_goesWay_33 (by decide) ?_
    refine r_bret dX7_goesWay_37 rfl (by first | exact Or.inl rfl | exact Or.inr rfl) (by decide) (by decide) ?_
    refine ⟨congrArg (fun z => some (Value.int z)) ?_, rfl⟩
    have hw4 : way = 0 ∨ way = 1 ∨ way = 2 ∨ way = 3 := by omega
    try revert q29
    try revert q21
    try revert q11
    revert q4
    rcases hp with rfl | rfl | rfl | rfl | rfl
    · exact absurd rfl hn
    all_goals (rcases hw4 with rfl | rfl | rfl | rfl <;> decide)
  · refine r_iload_n 8 dX7_goesWay_7 rfl rfl ?_
    refine r_callS0 11 dX7_goesWay_8 rfl (tX7_sideOf) l_X7_87 mX7_sideOf rfl (by decide) (Nat.le_of_ble_eq_true rfl) (by decide) (qI ?_)
    refine r_if_ne 18 14 dX7_goesWay_11 (by decide) rfl (fun q11 => ?_) (fun q11 => ?_)
    · refine r_iconst (v := 0) 19 dX7_goesWay_18 rfl (by decide) ?_
      refine r_iload_n 20 dX7_goesWay_19 rfl rfl ?_
      refine r_iconst (v := 2) 21 dX7_goesWay_20 rfl (by decide) ?_
      refine r_icmp_ge 28 24 dX7_goesWay_21 (by decide) rfl (fun q21 => ?_) (fun q21 => ?_)
      · refine r_iconst (v := 0) 29 dX7_goesWay_28 rfl (by decide) ?_
        refine r_icmp_ne 36 32 dX7_goesWay_29 (by decide) rfl (fun q29 => ?_) (fun q29 => ?_)
        · refine r_iconst (v := 0) 37 dX7_goesWay_36 rfl (by decide) ?_
          refine r_bret dX7_goesWay_37 rfl (by first | exact Or.inl rfl | exact Or.inr rfl) (by decide) (by decide) ?_
          refine ⟨congrArg (fun z => some (Value.int z)) ?_, rfl⟩
          have hw4 : way = 0 ∨ way = 1 ∨ way = 2 ∨ way = 3 := by omega
          try revert q29
          try revert q21
          try revert q11
          revert q4
          rcases hp with rfl | rfl | rfl | rfl | rfl
          · exact absurd rfl hn
          all_goals (rcases hw4 with rfl | rfl | rfl | rfl <;> decide)
        · refine r_iconst (v := 1) 33 dX7_goesWay_32 rfl (by decide) ?_
          refine r_goto 37 dX7_goesWay_33 (by decide) ?_
          refine r_bret dX7_goesWay_37 rfl (by first | exact Or.inl rfl | exact Or.inr rfl) (by decide) (by decide) ?_
          refine ⟨congrArg (fun z => some (Value.int z)) ?_, rfl⟩
          have hw4 : way = 0 ∨ way = 1 ∨ way = 2 ∨ way = 3 := by omega
          try revert q29
          try revert q21
          try revert q11
          revert q4
          rcases hp with rfl | rfl | rfl | rfl | rfl
          · exact absurd rfl hn
          all_goals (rcases hw4 with rfl | rfl | rfl | rfl <;> decide)
      · refine r_iconst (v := 1) 25 dX7_goesWay_24 rfl (by decide) ?_
        refine r_goto 29 dX7_goesWay_25 (by decide) ?_
        refine r_icmp_ne 36 32 dX7_goesWay_29 (by decide) rfl (fun q29 => ?_) (fun q29 => ?_)
        · refine r_iconst (v := 0) 37 dX7_goesWay_36 rfl (by decide) ?_
          refine r_bret dX7_goesWay_37 rfl (by first | exact Or.inl rfl | exact Or.inr rfl) (by decide) (by decide) ?_
          refine ⟨congrArg (fun z => some (Value.int z)) ?_, rfl⟩
          have hw4 : way = 0 ∨ way = 1 ∨ way = 2 ∨ way = 3 := by omega
          try revert q29
          try revert q21
          try revert q11
          revert q4
          rcases hp with rfl | rfl | rfl | rfl | rfl
          · exact absurd rfl hn
          all_goals (rcases hw4 with rfl | rfl | rfl | rfl <;> decide)
        · refine r_iconst (v := 1) 33 dX7_goesWay_32 rfl (by decide) ?_
          refine r_goto 37 dX7_goesWay_33 (by decide) ?_
          refine r_bret dX7_goesWay_37 rfl (by first | exact Or.inl rfl | exact Or.inr rfl) (by decide) (by decide) ?_
          refine ⟨congrArg (fun z => some (Value.int z)) ?_, rfl⟩
          have hw4 : way = 0 ∨ way = 1 ∨ way = 2 ∨ way = 3 := by omega
          try revert q29
          try revert q21
          try revert q11
          revert q4
          rcases hp with rfl | rfl | rfl | rfl | rfl
          · exact absurd rfl hn
          all_goals (rcases hw4 with rfl | rfl | rfl | rfl <;> decide)
    · refine r_iconst (v := 1) 15 dX7_goesWay_14 rfl (by decide) ?_
      refine r_goto 19 dX7_goesWay_15 (by decide) ?_
      refine r_iload_n 20 dX7_goesWay_19 rfl rfl ?_
      refine r_iconst (v := 2) 21 dX7_goesWay_20 rfl (by decide) ?_
      refine r_icmp_ge 28 24 dX7_goesWay_21 (by decide) rfl (fun q21 => ?_) (fun q21 => ?_)
      · refine r_iconst (v := 0) 29 dX7_goesWay_28 rfl (by decide) ?_
        refine r_icmp_ne 36 32 dX7_goesWay_29 (by decide) rfl (fun q29 => ?_) (fun q29 => ?_)
        · refine r_iconst (v := 0) 37 dX7_goesWay_36 rfl (by decide) ?_
          refine r_bret dX7_goesWay_37 rfl (by first | exact Or.inl rfl | exact Or.inr rfl) (by decide) (by decide) ?_
          refine ⟨congrArg (fun z => some (Value.int z)) ?_, rfl⟩
          have hw4 : way = 0 ∨ way = 1 ∨ way = 2 ∨ way = 3 := by omega
          try revert q29
          try revert q21
          try revert q11
          revert q4
          rcases hp with rfl | rfl | rfl | rfl | rfl
          · exact absurd rfl hn
          all_goals (rcases hw4 with rfl | rfl | rfl | rfl <;> decide)
        · refine r_iconst (v := 1) 33 dX7_goesWay_32 rfl (by decide) ?_
          refine r_goto 37 dX7_goesWay_33 (by decide) ?_
          refine r_bret dX7_goesWay_37 rfl (by first | exact Or.inl rfl | exact Or.inr rfl) (by decide) (by decide) ?_
          refine ⟨congrArg (fun z => some (Value.int z)) ?_, rfl⟩
          have hw4 : way = 0 ∨ way = 1 ∨ way = 2 ∨ way = 3 := by omega
          try revert q29
          try revert q21
          try revert q11
          revert q4
          rcases hp with rfl | rfl | rfl | rfl | rfl
          · exact absurd rfl hn
          all_goals (rcases hw4 with rfl | rfl | rfl | rfl <;> decide)
      · refine r_iconst (v := 1) 25 dX7_goesWay_24 rfl (by decide) ?_
        refine r_goto 29 dX7_goesWay_25 (by decide) ?_
        refine r_icmp_ne 36 32 dX7_goesWay_29 (by decide) rfl (fun q29 => ?_) (fun q29 => ?_)
        · refine r_iconst (v := 0) 37 dX7_goesWay_36 rfl (by decide) ?_
          refine r_bret dX7_goesWay_37 rfl (by first | exact Or.inl rfl | exact Or.inr rfl) (by decide) (by decide) ?_
          refine ⟨congrArg (fun z => some (Value.int z)) ?_, rfl⟩
          have hw4 : way = 0 ∨ way = 1 ∨ way = 2 ∨ way = 3 := by omega
          try revert q29
          try revert q21
          try revert q11
          revert q4
          rcases hp with rfl | rfl | rfl | rfl | rfl
          · exact absurd rfl hn
          all_goals (rcases hw4 with rfl | rfl | rfl | rfl <;> decide)
        · refine r_iconst (v := 1) 33 dX7_goesWay_32 rfl (by decide) ?_
          refine r_goto 37 dX7_goesWay_33 (by decide) ?_
          refine r_bret dX7_goesWay_37 rfl (by first | exact Or.inl rfl | exact Or.inr rfl) (by decide) (by decide) ?_
          refine ⟨congrArg (fun z => some (Value.int z)) ?_, rfl⟩
          have hw4 : way = 0 ∨ way = 1 ∨ way = 2 ∨ way = 3 := by omega
          try revert q29
          try revert q21
          try revert q11
          revert q4
          rcases hp with rfl | rfl | rfl | rfl | rfl
          · exact absurd rfl hn
          all_goals (rcases hw4 with rfl | rfl | rfl | rfl <;> decide)

theorem tX7_nx {Γ : CT} {w : PW} {s way : Nat} (hs : s < 48) (hw : way < 4) : Cl Γ yX7_next XX7_next 1 0 0 [.int (nI s), .int (nI way)] w (rI (nI (nx s way)) w) := by
  rw [← nxI_nx hs hw]
  exact tX7_next
theorem tX7_sd {Γ : CT} {w : PW} {p : Int32} (h : okP p) : Cl Γ yX7_sideOf XX7_sideOf 0 0 0 [.int p] w (rI (sdO p) w) := by
  rw [← sdM_sd h]
  exact tX7_sideOf
theorem lsA.add {B sd ch hm fr wy gs gl tk : Nat → Int32} {L : Nat} {l : List HP} {q : HP} (h : lsA (B, sd, ch, hm, fr, wy, gs, gl, tk) L l) (hl : l.length < 192) : lsA (B, sd, ch, upd hm L (nI (l.length + 1)), upd fr (1500 * L + l.length) (nI q.1), upd wy (1500 * L + l.length) (nI q.2.2.1), upd gs (1500 * L + l.length) (nI q.2.2.2.1), upd gl (1500 * L + l.length) (nI q.2.1), upd tk (1500 * L + l.length) q.2.2.2.2) L (l ++ [q]) ∧ smL (B, sd, ch, hm, fr, wy, gs, gl, tk) (B, sd, ch, upd hm L (nI (l.length + 1)), upd fr (1500 * L + l.length) (nI q.1), upd wy (1500 * L + l.length) (nI q.2.2.1), upd gs (1500 * L + l.length) (nI q.2.2.2.1), upd gl (1500 * L + l.length) (nI q.2.1), upd tk (1500 * L + l.length) q.2.2.2.2) L := by
  obtain ⟨h1, h2, h3⟩ := h
  refine ⟨⟨by rw [List.length_append]; exact hl, ?_, fun i q1 hq => ?_⟩, rfl, rfl, rfl, fun j hj => pk_un (by omega), fun j hj => ⟨pk_un (by omega), pk_un (by omega), pk_un (by omega), pk_un (by omega), pk_un (by omega)⟩⟩
  · rw [List.length_append]
    exact pk_us
  · rcases Nat.lt_or_ge i l.length with hi | hi
    · rw [List.getElem?_append_left hi] at hq
      obtain ⟨a, b, c, d, e⟩ := h3 i q1 hq
      exact ⟨(pk_un (by omega)).trans a, (pk_un (by omega)).trans b, (pk_un (by omega)).trans c, (pk_un (by omega)).trans d, (pk_un (by omega)).trans e⟩
    · rw [List.getElem?_append_right hi] at hq
      have hi2 : i = l.length := by
        rcases Nat.eq_zero_or_pos (i - l.length) with e | e
        · omega
        · rw [List.getElem?_cons, if_neg (by omega)] at hq
          simp at hq
      subst hi2
      rw [Nat.sub_self] at hq
      cases hq
      exact ⟨pk_us, pk_us, pk_us, pk_us, pk_us⟩
set_option maxRecDepth 100000 in
theorem tX7_list {Γ : CT} {w : PW} {pm ty rm sp wr : Int32} {W : MW} {L : Nat} {l : List HP} {q : HP} (ho : w[43]? = some (oM pm ty rm sp wr)) (hW : isW w W) (hls : lsA W L l) (hL : L < 4) (hl : l.length < 192) : Cl Γ yX7_list XX7_list 0 0 0 [.ref 43, .int (nI L), .int (nI q.1), .int (nI q.2.2.1), .int (nI q.2.2.2.1), .int (nI q.2.1), .int q.2.2.2.2] w (rN (toLs w W L (l ++ [q]))) := by
  refine Cl.of (ls := [some (.ref 43), some (.int (nI L)), some (.int (nI q.1)), some (.int (nI q.2.2.1)), some (.int (nI q.2.2.2.1)), some (.int (nI q.2.1)), some (.int q.2.2.2.2), none]) rfl (by decide +kernel) (fun h => by cases h) (Nat.le_of_ble_eq_true rfl) rfl ?_
  obtain ⟨B, sd, ch, hm, fr, wy, gs, gl, tk⟩ := W
  obtain ⟨w49, w50, w51, w52, w53, w54, w55, w56, w57⟩ : w[49]? = some (aI 192 B) ∧ w[50]? = some (aI 4 sd) ∧ w[51]? = some (aI 4 ch) ∧ w[52]? = some (aI 4 hm) ∧ w[53]? = some (aI 6000 fr) ∧ w[54]? = some (aI 6000 wy) ∧ w[55]? = some (aI 6000 gs) ∧ w[56]? = some (aI 6000 gl) ∧ w[57]? = some (aI 6000 tk) := id hW
  have eh : hm L = nI l.length := hls.2.1
  refine r_sipush (v := nI 1500) 3 dX7_list_0 rfl (by decide) ?_
  refine r_iload_n 4 dX7_list_3 rfl rfl ?_
  refine r_imul 5 dX7_list_4 rfl ?_
  refine r_aload_n 6 dX7_list_5 rfl rfl rfl ?_
  refine r_getf 9 dX7_list_6 rfl f_X7_36.r (by repeat (first | assumption | refine gs_eq ?_ | refine gs_ne (by omega) ?_ | exact is_of (by assumption) | refine gs_is ?_)) rfl ?_
  refine r_iload_n 10 dX7_list_9 rfl rfl ?_
  refine r_iald 11 dX7_list_10 rfl (L) (by repeat (first | assumption | refine gs_eq ?_ | refine gs_ne (by omega) ?_ | exact is_of (by assumption) | refine gs_is ?_)) rfl hL (by decide) ?_
  rw [eh, pk_mul]
  refine r_iadd 12 dX7_list_11 rfl ?_
  rw [nI_add]
  refine r_istore (ls1 := [_, _, _, _, _, _, _, _]) 14 dX7_list_12 rfl (by decide) rfl rfl ?_
  refine r_aload_n 15 dX7_list_14 rfl rfl rfl ?_
  refine r_getf 18 dX7_list_15 rfl f_X7_39.r (by repeat (first | assumption | refine gs_eq ?_ | refine gs_ne (by omega) ?_ | exact is_of (by assumption) | refine gs_is ?_)) rfl ?_
  refine r_iload 20 dX7_list_18 rfl rfl ?_
  refine r_iload_n 21 dX7_list_20 rfl rfl ?_
  refine r_iast 22 dX7_list_21 rfl (1500 * L + l.length) (by repeat (first | assumption | refine gs_eq ?_ | refine gs_ne (by omega) ?_ | exact is_of (by assumption) | refine gs_is ?_)) rfl (by omega) (by decide) ?_
  refine r_aload_n 23 dX7_list_22 rfl rfl rfl ?_
  refine r_getf 26 dX7_list_23 rfl f_X7_42.r (by repeat (first | assumption | refine gs_eq ?_ | refine gs_ne (by omega) ?_ | exact is_of (by assumption) | refine gs_is ?_)) rfl ?_
  refine r_iload 28 dX7_list_26 rfl rfl ?_
  refine r_iload_n 29 dX7_list_28 rfl rfl ?_
  refine r_iast 30 dX7_list_29 rfl (1500 * L + l.length) (by repeat (first | assumption | refine gs_eq ?_ | refine gs_ne (by omega) ?_ | exact is_of (by assumption) | refine gs_is ?_)) rfl (by omega) (by decide) ?_
  refine r_aload_n 31 dX7_list_30 rfl rfl rfl ?_
  refine r_getf 34 dX7_list_31 rfl f_X7_45.r (by repeat (first | assumption | refine gs_eq ?_ | refine gs_ne (by omega) ?_ | exact is_of (by assumption) | refine gs_is ?_)) rfl ?_
  refine r_iload 36 dX7_list_34 rfl rfl ?_
  refine r_iload 38 dX7_list_36 rfl rfl ?_
  refine r_iast 39 dX7_list_38 rfl (1500 * L + l.length) (by repeat (first | assumption | refine gs_eq ?_ | refine gs_ne (by omega) ?_ | exact is_of (by assumption) | refine gs_is ?_)) rfl (by omega) (by decide) ?_
  refine r_aload_n 40 dX7_list_39 rfl rfl rfl ?_
  refine r_getf 43 dX7_list_40 rfl f_X7_48.r (by repeat (first | assumption | refine gs_eq ?_ | refine gs_ne (by omega) ?_ | exact is_of (by assumption) | refine gs_is ?_)) rfl ?_
  refine r_iload 45 dX7_list_43 rfl rfl ?_
  refine r_iload 47 dX7_list_45 rfl rfl ?_
  refine r_iast 48 dX7_list_47 rfl (1500 * L + l.length) (by repeat (first | assumption | refine gs_eq ?_ | refine gs_ne (by omega) ?_ | exact is_of (by assumption) | refine gs_is ?_)) rfl (by omega) (by decide) ?_
  refine r_aload_n 49 dX7_list_48 rfl rfl rfl ?_
  refine r_getf 52 dX7_list_49 rfl f_X7_51.r (by repeat (first | assumption | refine gs_eq ?_ | refine gs_ne (by omega) ?_ | exact is_of (by assumption) | refine gs_is ?_)) rfl ?_
  refine r_iload 54 dX7_list_52 rfl rfl ?_
  refine r_iload 56 dX7_list_54 rfl rfl ?_
  refine r_iast 57 dX7_list_56 rfl (1500 * L + l.length) (by repeat (first | assumption | refine gs_eq ?_ | refine gs_ne (by omega) ?_ | exact is_of (by assumption) | refine gs_is ?_)) rfl (by omega) (by decide) ?_
  refine r_aload_n 58 dX7_list_57 rfl rfl rfl ?_
  refine r_getf 61 dX7_list_58 rfl f_X7_36.r (by repeat (first | assumption | refine gs_eq ?_ | refine gs_ne (by omega) ?_ | exact is_of (by assumption) | refine gs_is ?_)) rfl ?_
  refine r_iload_n 62 dX7_list_61 rfl rfl ?_
  refine r_dup2 63 dX7_list_62 rfl rfl rfl ?_
  refine r_iald 64 dX7_list_63 rfl (L) (by repeat (first | assumption | refine gs_eq ?_ | refine gs_ne (by omega) ?_ | exact is_of (by assumption) | refine gs_is ?_)) rfl hL (by decide) ?_
  rw [eh]
  refine r_iconst (v := 1) 65 dX7_list_64 rfl (by decide) ?_
  refine r_iadd 66 dX7_list_65 rfl ?_
  rw [nI_1]
  refine r_iast 67 dX7_list_66 rfl (L) (by repeat (first | assumption | refine gs_eq ?_ | refine gs_ne (by omega) ?_ | exact is_of (by assumption) | refine gs_is ?_)) rfl hL (by decide) ?_
  refine r_vret dX7_list_67 rfl (by decide) (by decide) ?_
  have ha := hls.add (q := q) hl
  exact ⟨rfl, (by repeat (first | exact Fr.rf | refine Fr.tr ?_ (Fr.st (by unfold wS; decide)))), (B, sd, ch, upd hm L (nI (l.length + 1)), upd fr (1500 * L + l.length) (nI q.1), upd wy (1500 * L + l.length) (nI q.2.2.1), upd gs (1500 * L + l.length) (nI q.2.2.2.1), upd gl (1500 * L + l.length) (nI q.2.1), upd tk (1500 * L + l.length) q.2.2.2.2), ⟨(by repeat (first | assumption | refine gs_eq ?_ | refine gs_ne (by omega) ?_ | exact is_of (by assumption) | refine gs_is ?_)), (by repeat (first | assumption | refine gs_eq ?_ | refine gs_ne (by omega) ?_ | exact is_of (by assumption) | refine gs_is ?_)), (by repeat (first | assumption | refine gs_eq ?_ | refine gs_ne (by omega) ?_ | exact is_of (by assumption) | refine gs_is ?_)), (by repeat (first | assumption | refine gs_eq ?_ | refine gs_ne (by omega) ?_ | exact is_of (by assumption) | refine gs_is ?_)), (by repeat (first | assumption | refine gs_eq ?_ | refine gs_ne (by omega) ?_ | exact is_of (by assumption) | refine gs_is ?_)), (by repeat (first | assumption | refine gs_eq ?_ | refine gs_ne (by omega) ?_ | exact is_of (by assumption) | refine gs_is ?_)), (by repeat (first | assumption | refine gs_eq ?_ | refine gs_ne (by omega) ?_ | exact is_of (by assumption) | refine gs_is ?_)), (by repeat (first | assumption | refine gs_eq ?_ | refine gs_ne (by omega) ?_ | exact is_of (by assumption) | refine gs_is ?_)), (by repeat (first | assumption | refine gs_eq ?_ | refine gs_ne (by omega) ?_ | exact is_of (by assumption) | refine gs_is ?_))⟩, ha.1, ha.2⟩

