/-! ===== the model: rows of hops, worths ===== -/
def atL (W : MW) (L : Nat) (f : Nat → Int32) (mv jp : Int32) : Prop := bdA W L f ∧ W.2.1 L = mv ∧ W.2.2.1 L = jp
theorem atL.lo {W V : MW} {L M : Nat} {f : Nat → Int32} {mv jp : Int32} (h : atL W L f mv jp) (k : smB W V M) (hL : L < M) : atL V L f mv jp := ⟨h.1.lo k hL, (k.2.1 L hL).1.trans h.2.1, (k.2.1 L hL).2.trans h.2.2⟩
theorem atL.sm {W V : MW} {L M : Nat} {f : Nat → Int32} {mv jp : Int32} (h : atL W L f mv jp) (k : smL W V M) : atL V L f mv jp := ⟨h.1.sm k.1, by rw [k.2.1]; exact h.2.1, by rw [k.2.2.1]; exact h.2.2⟩
def toB (w : PW) (W : MW) (L : Nat) : PW → Prop := fun w1 => Fr w w1 wS ∧ ∃ V, isW w1 V ∧ smB W V L
/-- rows of hops as the model counts them: without a bound within the last -/
def mR : Nat → (Nat → Int32) → Int32 → Int32 → Nat → Nat
  | 0, f, mv, jp, _ => (hopsC f mv jp).length
  | k + 1, f, mv, jp, M => rowsL (fun q m => mR k (mkF f mv q) (mkM f mv q) (mkJ f mv q) m) (hopsC f mv jp) M 0
theorem rowsL_ge {g : HP → Nat → Nat} : ∀ (l : List HP) (M num : Nat), M ≤ num → rowsL g l M num = num
  | [], M, num, h => rfl
  | q :: t, M, num, h => by unfold rowsL; rw [if_neg (by omega)]
theorem rowsL_min {g g' : HP → Nat → Nat} (hg : ∀ q m, min (g' q m) m = g q m) : ∀ (l : List HP) (M num : Nat), num ≤ M → min (rowsL g' l M num) M = rowsL g l M num
  | [], M, num, h => by unfold rowsL; omega
  | q :: t, M, num, h => by
    unfold rowsL
    by_cases hlt : num < M
    · rw [if_pos hlt, if_pos hlt]
      have h1 := hg q (M - num)
      rcases Nat.lt_or_ge (num + g' q (M - num)) M with h2 | h2
      · have h3 : g' q (M - num) = g q (M - num) := by omega
        rw [← h3]
        exact rowsL_min hg t M _ (by omega)
      · have h3 : num + g q (M - num) = M := by omega
        rw [rowsL_ge t M _ h2, h3, rowsL_ge t M M (Nat.le_refl M)]
        omega
    · rw [if_neg hlt, if_neg hlt]
      omega
theorem mR_min : ∀ (k : Nat) (f : Nat → Int32) (mv jp : Int32) (M : Nat), min (mR k f mv jp M) M = nR k f mv jp M
  | 0, f, mv, jp, M => rfl
  | k + 1, f, mv, jp, M => rowsL_min (fun q m => mR_min k _ _ _ m) _ M 0 (Nat.zero_le _)
theorem rowsL_b {g : HP → Nat → Nat} {b : Nat} (hg : ∀ q m, g q m ≤ m + b) : ∀ (l : List HP) (M num : Nat), num ≤ M + b → rowsL g l M num ≤ M + b
  | [], M, num, h => h
  | q :: t, M, num, h => by
    unfold rowsL
    split
    · have := hg q (M - num)
      exact rowsL_b hg t M _ (by omega)
    · exact h
theorem mR_b : ∀ (k : Nat) (f : Nat → Int32) (mv jp : Int32) (M : Nat), (mv = 0 ∨ mv = 1) → mR k f mv jp M ≤ M + 192
  | 0, f, mv, jp, M, h => by have := lenC (f := f) (jp := jp) h; show (hopsC f mv jp).length ≤ _; omega
  | k + 1, f, mv, jp, M, h => rowsL_b (fun q m => mR_b k _ _ _ m (mkM_01 h)) _ M 0 (by omega)
theorem wnO_0 {n : Nat → Int32} : wnO n 0 = n 0 + 3 * n 1 - (n 2 + 3 * n 3) := rfl
theorem wnO_1 {n : Nat → Int32} : wnO n 1 = n 2 + 3 * n 3 - (n 0 + 3 * n 1) := rfl
theorem wnO_C {f n : Nat → Int32} {sd : Int32} (h : nC f n) (hs : sd = 0 ∨ sd = 1) : wnO (fun i => nI (pcK f i 48)) sd = wnO n sd := by
  rcases hs with rfl | rfl
  · rw [wnO_0, wnO_0, h 0 (by decide), h 1 (by decide), h 2 (by decide), h 3 (by decide)]
  · rw [wnO_1, wnO_1, h 0 (by decide), h 1 (by decide), h 2 (by decide), h 3 (by decide)]
def itsO (p : Int32) : Int32 := if p = -6 then 0 else if isKg p = true then 3 else 1
theorem wn_s {f : Nat → Int32} {sd : Int32} {k : Nat} (hp : okP (f k)) (hs : sd = 0 ∨ sd = 1) : wnO (fun i => nI (pcK f i (k + 1))) sd = wnO (fun i => nI (pcK f i k)) sd + (if sdO (f k) = sd then itsO (f k) else -itsO (f k)) := by
  have e : ∀ i, i < 4 → nI (pcK f i (k + 1)) = nI (pcK f i k) + (if f k = nI i then 1 else 0) := by
    intro i _
    rw [pcK_s]
    split
    · rw [nI_1]
    · rw [Int32.add_zero, Nat.add_zero]
  rcases hs with rfl | rfl
  · rw [wnO_0, wnO_0, e 0 (by decide), e 1 (by decide), e 2 (by decide), e 3 (by decide)]
    generalize nI (pcK f 0 k) = a0
    generalize nI (pcK f 1 k) = a1
    generalize nI (pcK f 2 k) = a2
    generalize nI (pcK f 3 k) = a3
    rcases hp with h | h | h | h | h
    · rw [h]
      rw [show (if ((-6) : Int32) = nI 0 then (1 : Int32) else 0) = 0 from by decide, show (if ((-6) : Int32) = nI 1 then (1 : Int32) else 0) = 0 from by decide, show (if ((-6) : Int32) = nI 2 then (1 : Int32) else 0) = 0 from by decide, show (if ((-6) : Int32) = nI 3 then (1 : Int32) else 0) = 0 from by decide, show (if sdO (-6) = 0 then itsO (-6) else -itsO (-6)) = (0 : Int32) from by decide]
      grind
    · rw [h]
      rw [show (if (0 : Int32) = nI 0 then (1 : Int32) else 0) = 1 from by decide, show (if (0 : Int32) = nI 1 then (1 : Int32) else 0) = 0 from by decide, show (if (0 : Int32) = nI 2 then (1 : Int32) else 0) = 0 from by decide, show (if (0 : Int32) = nI 3 then (1 : Int32) else 0) = 0 from by decide, show (if sdO 0 = 0 then itsO 0 else -itsO 0) = (1 : Int32) from by decide]
      grind
    · rw [h]
      rw [show (if (1 : Int32) = nI 0 then (1 : Int32) else 0) = 0 from by decide, show (if (1 : Int32) = nI 1 then (1 : Int32) else 0) = 1 from by decide, show (if (1 : Int32) = nI 2 then (1 : Int32) else 0) = 0 from by decide, show (if (1 : Int32) = nI 3 then (1 : Int32) else 0) = 0 from by decide, show (if sdO 1 = 0 then itsO 1 else -itsO 1) = (3 : Int32) from by decide]
      grind
    · rw [h]
      rw [show (if (2 : Int32) = nI 0 then (1 : Int32) else 0) = 0 from by decide, show (if (2 : Int32) = nI 1 then (1 : Int32) else 0) = 0 from by decide, show (if (2 : Int32) = nI 2 then (1 : Int32) else 0) = 1 from by decide, show (if (2 : Int32) = nI 3 then (1 : Int32) else 0) = 0 from by decide, show (if sdO 2 = 0 then itsO 2 else -itsO 2) = (-1 : Int32) from by decide]
      grind
    · rw [h]
      rw [show (if (3 : Int32) = nI 0 then (1 : Int32) else 0) = 0 from by decide, show (if (3 : Int32) = nI 1 then (1 : Int32) else 0) = 0 from by decide, show (if (3 : Int32) = nI 2 then (1 : Int32) else 0) = 0 from by decide, show (if (3 : Int32) = nI 3 then (1 : Int32) else 0) = 1 from by decide, show (if sdO 3 = 0 then itsO 3 else -itsO 3) = (-3 : Int32) from by decide]
      grind
  · rw [wnO_1, wnO_1, e 0 (by decide), e 1 (by decide), e 2 (by decide), e 3 (by decide)]
    generalize nI (pcK f 0 k) = a0
    generalize nI (pcK f 1 k) = a1
    generalize nI (pcK f 2 k) = a2
    generalize nI (pcK f 3 k) = a3
    rcases hp with h | h | h | h | h
    · rw [h]
      rw [show (if ((-6) : Int32) = nI 0 then (1 : Int32) else 0) = 0 from by decide, show (if ((-6) : Int32) = nI 1 then (1 : Int32) else 0) = 0 from by decide, show (if ((-6) : Int32) = nI 2 then (1 : Int32) else 0) = 0 from by decide, show (if ((-6) : Int32) = nI 3 then (1 : Int32) else 0) = 0 from by decide, show (if sdO (-6) = 1 then itsO (-6) else -itsO (-6)) = (0 : Int32) from by decide]
      grind
    · rw [h]
      rw [show (if (0 : Int32) = nI 0 then (1 : Int32) else 0) = 1 from by decide, show (if (0 : Int32) = nI 1 then (1 : Int32) else 0) = 0 from by decide, show (if (0 : Int32) = nI 2 then (1 : Int32) else 0) = 0 from by decide, show (if (0 : Int32) = nI 3 then (1 : Int32) else 0) = 0 from by decide, show (if sdO 0 = 1 then itsO 0 else -itsO 0) = (-1 : Int32) from by decide]
      grind
    · rw [h]
      rw [show (if (1 : Int32) = nI 0 then (1 : Int32) else 0) = 0 from by decide, show (if (1 : Int32) = nI 1 then (1 : Int32) else 0) = 1 from by decide, show (if (1 : Int32) = nI 2 then (1 : Int32) else 0) = 0 from by decide, show (if (1 : Int32) = nI 3 then (1 : Int32) else 0) = 0 from by decide, show (if sdO 1 = 1 then itsO 1 else -itsO 1) = (-3 : Int32) from by decide]
      grind
    · rw [h]
      rw [show (if (2 : Int32) = nI 0 then (1 : Int32) else 0) = 0 from by decide, show (if (2 : Int32) = nI 1 then (1 : Int32) else 0) = 0 from by decide, show (if (2 : Int32) = nI 2 then (1 : Int32) else 0) = 1 from by decide, show (if (2 : Int32) = nI 3 then (1 : Int32) else 0) = 0 from by decide, show (if sdO 2 = 1 then itsO 2 else -itsO 2) = (1 : Int32) from by decide]
      grind
    · rw [h]
      rw [show (if (3 : Int32) = nI 0 then (1 : Int32) else 0) = 0 from by decide, show (if (3 : Int32) = nI 1 then (1 : Int32) else 0) = 0 from by decide, show (if (3 : Int32) = nI 2 then (1 : Int32) else 0) = 0 from by decide, show (if (3 : Int32) = nI 3 then (1 : Int32) else 0) = 1 from by decide, show (if sdO 3 = 1 then itsO 3 else -itsO 3) = (3 : Int32) from by decide]
      grind
theorem wnO_00 {f : Nat → Int32} {sd : Int32} (h : sd = 0 ∨ sd = 1) : 0 = wnO (fun j => nI (pcK f j 0)) sd := by
  rcases h with rfl | rfl
  · rw [wnO_0]
    show 0 = nI 0 + 3 * nI 0 - (nI 0 + 3 * nI 0)
    decide
  · rw [wnO_1]
    show 0 = nI 0 + 3 * nI 0 - (nI 0 + 3 * nI 0)
    decide
theorem okF.sdn {f : Nat → Int32} (hf : okF f) {s : Nat} (hs : s < 48) : sdO (f s) = sdO (f s) := rfl
set_option maxRecDepth 100000 in
theorem tX7_worthNow {Γ : CT} {w : PW} {pm ty rm sp wr : Int32} {W : MW} {z : Nat → Int32} {L : Nat} {f n : Nat → Int32} {sd : Int32} (ho : w[43]? = some (oM pm ty rm sp wr)) (hz : w[44]? = some (aI 431 z)) (hzs : z 48 = sd) (hW : isW w W) (hsd : sd = 0 ∨ sd = 1) (hb : bdA W L f) (hL : L < 4) (hf : okF f) (hn : nC f n) : Cl Γ yX7_worthNow XX7_worthNow 1 0 0 [.ref 43, .int (nI L)] w (rI (wnO n sd) w) := by
  have loop : ∀ (m i : Nat) (s : Int32) (x4 x5 : Option Value), i + m = 48 → (s = wnO (fun j => nI (pcK f j i)) sd) → (nl x4 = true) → (nl x5 = true) → Rn Γ XX7_worthNow (rmO 1 0 0) none (FinM (rI (wnO n sd) w) 0 0) 0 0 w 4 [some (.ref 43), some (.int (nI L)), some (.int s), some (.int (nI i)), x4, x5] [] := by
    intro m
    induction m with
    | zero =>
      intro i s x4 x5 hi hs e4 e5
      have h48 : i = 48 := by omega
      subst h48
      refine r_iload_n 5 dX7_worthNow_4 rfl rfl ?_
      refine r_bipush (v := nI 48) 7 dX7_worthNow_5 rfl (by decide) ?_
      refine r_icmp_ge 76 10 dX7_worthNow_7 (by decide) rfl (fun q7 => ?_) (fun q7 => absurd q7 (fun z => z (nI_le (by omega) (by omega))))
      refine r_iload_n 77 dX7_worthNow_76 rfl rfl ?_
      refine r_iret dX7_worthNow_77 rfl (by decide) (by decide) ?_
      exact ⟨by rw [hs, wnO_C hn hsd], rfl⟩
    | succ m ih =>
      intro i s x4 x5 hi hs e4 e5
      refine r_iload_n 5 dX7_worthNow_4 rfl rfl ?_
      refine r_bipush (v := nI 48) 7 dX7_worthNow_5 rfl (by decide) ?_
      refine r_icmp_ge 76 10 dX7_worthNow_7 (by decide) rfl (fun q7 => absurd q7 (nI_ge (by omega) (by omega))) (fun q7 => ?_)
      refine r_aload_n 11 dX7_worthNow_10 rfl rfl rfl ?_
      refine r_iload_n 12 dX7_worthNow_11 rfl rfl ?_
      refine r_iload_n 13 dX7_worthNow_12 rfl rfl ?_
      refine r_callV0 16 dX7_worthNow_13 rfl (tX7_pieceAt ho hW hb hL (by omega)) l_X7_79 mX7_pieceAt rfl (by repeat (first | assumption | refine gs_eq ?_ | refine gs_ne (by omega) ?_ | exact is_of (by assumption) | refine gs_is ?_)) rfl (by decide) (Nat.le_of_ble_eq_true rfl) (by decide) (qI ?_)
      refine r_istore (ls1 := [_, _, _, _, _, _]) 18 dX7_worthNow_16 rfl (by decide) rfl rfl ?_
      refine r_iload 20 dX7_worthNow_18 rfl rfl ?_
      refine r_bipush (v := (-6)) 22 dX7_worthNow_20 rfl (by decide) ?_
      refine r_icmp_ne 29 25 dX7_worthNow_22 (by decide) rfl (fun q22 => ?_) (fun q22 => ?_)
      · refine r_iload 31 dX7_worthNow_29 rfl rfl ?_
        refine r_callS0 34 dX7_worthNow_31 rfl (tX7_isKing) l_X7_83 mX7_isKing rfl (by decide) (Nat.le_of_ble_eq_true rfl) (by decide) (qI ?_)
        refine r_if_eq 41 37 dX7_worthNow_34 (by decide) rfl (fun q34 => ?_) (fun q34 => ?_)
        · refine r_iconst (v := 1) 42 dX7_worthNow_41 rfl (by decide) ?_
          refine r_istore (ls1 := [_, _, _, _, _, _]) 44 dX7_worthNow_42 rfl (by decide) rfl rfl ?_
          refine r_iload_n 45 dX7_worthNow_44 rfl rfl ?_
          refine r_iload 47 dX7_worthNow_45 rfl rfl ?_
          refine r_callS0 50 dX7_worthNow_47 rfl (tX7_sd (hf _ (by omega))) l_X7_87 mX7_sideOf rfl (by decide) (Nat.le_of_ble_eq_true rfl) (by decide) (qI ?_)
          refine r_aload_n 51 dX7_worthNow_50 rfl rfl rfl ?_
          refine r_getf 54 dX7_worthNow_51 rfl f_X7_7.r (by repeat (first | assumption | refine gs_eq ?_ | refine gs_ne (by omega) ?_ | exact is_of (by assumption) | refine gs_is ?_)) rfl ?_
          refine r_bipush (v := 48) 56 dX7_worthNow_54 rfl (by decide) ?_
          refine r_iald 57 dX7_worthNow_56 rfl (48) (by repeat (first | assumption | refine gs_eq ?_ | refine gs_ne (by omega) ?_ | exact is_of (by assumption) | refine gs_is ?_)) rfl (by decide) (by decide) ?_
          rw [hzs]
          refine r_icmp_ne 65 60 dX7_worthNow_57 (by decide) rfl (fun q57 => ?_) (fun q57 => ?_)
          · refine r_iload 67 dX7_worthNow_65 rfl rfl ?_
            refine r_ineg 68 dX7_worthNow_67 rfl ?_
            refine r_iadd 69 dX7_worthNow_68 rfl ?_
            refine r_istore_n (ls1 := [_, _, _, _, _, _]) 70 dX7_worthNow_69 rfl (by decide) rfl rfl ?_
            refine r_iinc (ls1 := [_, _, _, _, _, _]) 73 dX7_worthNow_70 rfl (by decide) rfl rfl (nI_1 i) rfl ?_
            refine r_goto 4 dX7_worthNow_73 (by decide) ?_
            exact ih (i + 1) _ _ _ (by omega) (by
              rw [hs, wn_s (hf i (by omega)) hsd]
              unfold itsO
              first
              | rw [if_pos q57, if_pos q22]
              | rw [if_neg q57, if_pos q22]
              | rw [if_pos q57, if_neg q22, if_pos (ne_f q34)]
              | rw [if_neg q57, if_neg q22, if_pos (ne_f q34)]
              | rw [if_pos q57, if_neg q22, if_neg (eq_f q34)]
              | rw [if_neg q57, if_neg q22, if_neg (eq_f q34)]) rfl rfl
          · refine r_iload 62 dX7_worthNow_60 rfl rfl ?_
            refine r_goto 68 dX7_worthNow_62 (by decide) ?_
            refine r_iadd 69 dX7_worthNow_68 rfl ?_
            refine r_istore_n (ls1 := [_, _, _, _, _, _]) 70 dX7_worthNow_69 rfl (by decide) rfl rfl ?_
            refine r_iinc (ls1 := [_, _, _, _, _, _]) 73 dX7_worthNow_70 rfl (by decide) rfl rfl (nI_1 i) rfl ?_
            refine r_goto 4 dX7_worthNow_73 (by decide) ?_
            exact ih (i + 1) _ _ _ (by omega) (by
              rw [hs, wn_s (hf i (by omega)) hsd]
              unfold itsO
              first
              | rw [if_pos q57, if_pos q22]
              | rw [if_neg q57, if_pos q22]
              | rw [if_pos q57, if_neg q22, if_pos (ne_f q34)]
              | rw [if_neg q57, if_neg q22, if_pos (ne_f q34)]
              | rw [if_pos q57, if_neg q22, if_neg (eq_f q34)]
              | rw [if_neg q57, if_neg q22, if_neg (eq_f q34)]) rfl rfl
        · refine r_iconst (v := 3) 38 dX7_worthNow_37 rfl (by decide) ?_
          refine r_goto 42 dX7_worthNow_38 (by decide) ?_
          refine r_istore (ls1 := [_, _, _, _, _, _]) 44 dX7_worthNow_42 rfl (by decide) rfl rfl ?_
          refine r_iload_n 45 dX7_worthNow_44 rfl rfl ?_
          refine r_iload 47 dX7_worthNow_45 rfl rfl ?_
          refine r_callS0 50 dX7_worthNow_47 rfl (tX7_sd (hf _ (by omega))) l_X7_87 mX7_sideOf rfl (by decide) (Nat.le_of_ble_eq_true rfl) (by decide) (qI ?_)
          refine r_aload_n 51 dX7_worthNow_50 rfl rfl rfl ?_
          refine r_getf 54 dX7_worthNow_51 rfl f_X7_7.r (by repeat (first | assumption | refine gs_eq ?_ | refine gs_ne (by omega) ?_ | exact is_of (by assumption) | refine gs_is ?_)) rfl ?_
          refine r_bipush (v := 48) 56 dX7_worthNow_54 rfl (by decide) ?_
          refine r_iald 57 dX7_worthNow_56 rfl (48) (by repeat (first | assumption | refine gs_eq ?_ | refine gs_ne (by omega) ?_ | exact is_of (by assumption) | refine gs_is ?_)) rfl (by decide) (by decide) ?_
          rw [hzs]
          refine r_icmp_ne 65 60 dX7_worthNow_57 (by decide) rfl (fun q57 => ?_) (fun q57 => ?_)
          · refine r_iload 67 dX7_worthNow_65 rfl rfl ?_
            refine r_ineg 68 dX7_worthNow_67 rfl ?_
            refine r_iadd 69 dX7_worthNow_68 rfl ?_
            refine r_istore_n (ls1 := [_, _, _, _, _, _]) 70 dX7_worthNow_69 rfl (by decide) rfl rfl ?_
            refine r_iinc (ls1 := [_, _, _, _, _, _]) 73 dX7_worthNow_70 rfl (by decide) rfl rfl (nI_1 i) rfl ?_
            refine r_goto 4 dX7_worthNow_73 (by decide) ?_
            exact ih (i + 1) _ _ _ (by omega) (by
              rw [hs, wn_s (hf i (by omega)) hsd]
              unfold itsO
              first
              | rw [if_pos q57, if_pos q22]
              | rw [if_neg q57, if_pos q22]
              | rw [if_pos q57, if_neg q22, if_pos (ne_f q34)]
              | rw [if_neg q57, if_neg q22, if_pos (ne_f q34)]
              | rw [if_pos q57, if_neg q22, if_neg (eq_f q34)]
              | rw [if_neg q57, if_neg q22, if_neg (eq_f q34)]) rfl rfl
          · refine r_iload 62 dX7_worthNow_60 rfl rfl ?_
            refine r_goto 68 dX7_worthNow_62 (by decide) ?_
            refine r_iadd 69 dX7_worthNow_68 rfl ?_
            refine r_istore_n (ls1 := [_, _, _, _, _, _]) 70 dX7_worthNow_69 rfl (by decide) rfl rfl ?_
            refine r_iinc (ls1 := [_, _, _, _, _, _]) 73 dX7_worthNow_70 rfl (by decide) rfl rfl (nI_1 i) rfl ?_
            refine r_goto 4 dX7_worthNow_73 (by decide) ?_
            exact ih (i + 1) _ _ _ (by omega) (by
              rw [hs, wn_s (hf i (by omega)) hsd]
              unfold itsO
              first
              | rw [if_pos q57, if_pos q22]
              | rw [if_neg q57, if_pos q22]
              | rw [if_pos q57, if_neg q22, if_pos (ne_f q34)]
              | rw [if_neg q57, if_neg q22, if_pos (ne_f q34)]
              | rw [if_pos q57, if_neg q22, if_neg (eq_f q34)]
              | rw [if_neg q57, if_neg q22, if_neg (eq_f q34)]) rfl rfl
      · refine r_iconst (v := 0) 26 dX7_worthNow_25 rfl (by decide) ?_
        refine r_goto 42 dX7_worthNow_26 (by decide) ?_
        refine r_istore (ls1 := [_, _, _, _, _, _]) 44 dX7_worthNow_42 rfl (by decide) rfl rfl ?_
        refine r_iload_n 45 dX7_worthNow_44 rfl rfl ?_
        refine r_iload 47 dX7_worthNow_45 rfl rfl ?_
        refine r_callS0 50 dX7_worthNow_47 rfl (tX7_sd (hf _ (by omega))) l_X7_87 mX7_sideOf rfl (by decide) (Nat.le_of_ble_eq_true rfl) (by decide) (qI ?_)
        refine r_aload_n 51 dX7_worthNow_50 rfl rfl rfl ?_
        refine r_getf 54 dX7_worthNow_51 rfl f_X7_7.r (by repeat (first | assumption | refine gs_eq ?_ | refine gs_ne (by omega) ?_ | exact is_of (by assumption) | refine gs_is ?_)) rfl ?_
        refine r_bipush (v := 48) 56 dX7_worthNow_54 rfl (by decide) ?_
        refine r_iald 57 dX7_worthNow_56 rfl (48) (by repeat (first | assumption | refine gs_eq ?_ | refine gs_ne (by omega) ?_ | exact is_of (by assumption) | refine gs_is ?_)) rfl (by decide) (by decide) ?_
        rw [hzs]
        refine r_icmp_ne 65 60 dX7_worthNow_57 (by decide) rfl (fun q57 => ?_) (fun q57 => ?_)
        · refine r_iload 67 dX7_worthNow_65 rfl rfl ?_
          refine r_ineg 68 dX7_worthNow_67 rfl ?_
          refine r_iadd 69 dX7_worthNow_68 rfl ?_
          refine r_istore_n (ls1 := [_, _, _, _, _, _]) 70 dX7_worthNow_69 rfl (by decide) rfl rfl ?_
          refine r_iinc (ls1 := [_, _, _, _, _, _]) 73 dX7_worthNow_70 rfl (by decide) rfl rfl (nI_1 i) rfl ?_
          refine r_goto 4 dX7_worthNow_73 (by decide) ?_
          exact ih (i + 1) _ _ _ (by omega) (by
            rw [hs, wn_s (hf i (by omega)) hsd]
            unfold itsO
            first
            | rw [if_pos q57, if_pos q22]
            | rw [if_neg q57, if_pos q22]
            | rw [if_pos q57, if_neg q22, if_pos (ne_f q34)]
            | rw [if_neg q57, if_neg q22, if_pos (ne_f q34)]
            | rw [if_pos q57, if_neg q22, if_neg (eq_f q34)]
            | rw [if_neg q57, if_neg q22, if_neg (eq_f q34)]) rfl rfl
        · refine r_iload 62 dX7_worthNow_60 rfl rfl ?_
          refine r_goto 68 dX7_worthNow_62 (by decide) ?_
          refine r_iadd 69 dX7_worthNow_68 rfl ?_
          refine r_istore_n (ls1 := [_, _, _, _, _, _]) 70 dX7_worthNow_69 rfl (by decide) rfl rfl ?_
          refine r_iinc (ls1 := [_, _, _, _, _, _]) 73 dX7_worthNow_70 rfl (by decide) rfl rfl (nI_1 i) rfl ?_
          refine r_goto 4 dX7_worthNow_73 (by decide) ?_
          exact ih (i + 1) _ _ _ (by omega) (by
            rw [hs, wn_s (hf i (by omega)) hsd]
            unfold itsO
            first
            | rw [if_pos q57, if_pos q22]
            | rw [if_neg q57, if_pos q22]
            | rw [if_pos q57, if_neg q22, if_pos (ne_f q34)]
            | rw [if_neg q57, if_neg q22, if_pos (ne_f q34)]
            | rw [if_pos q57, if_neg q22, if_neg (eq_f q34)]
            | rw [if_neg q57, if_neg q22, if_neg (eq_f q34)]) rfl rfl
  refine Cl.of (ls := [some (.ref 43), some (.int (nI L)), none, none, none, none]) rfl (by decide +kernel) (fun h => by cases h) (Nat.le_of_ble_eq_true rfl) rfl ?_
  refine r_iconst (v := 0) 1 dX7_worthNow_0 rfl (by decide) ?_
  refine r_istore_n (ls1 := [_, _, _, _, _, _]) 2 dX7_worthNow_1 rfl (by decide) rfl rfl ?_
  refine r_iconst (v := nI 0) 3 dX7_worthNow_2 rfl (by decide) ?_
  refine r_istore_n (ls1 := [_, _, _, _, _, _]) 4 dX7_worthNow_3 rfl (by decide) rfl rfl ?_
  exact loop 48 0 0 none none (by omega) (wnO_00 hsd) rfl rfl

set_option maxRecDepth 100000 in
theorem tX7_worthLost {Γ : CT} {w : PW} {pm ty rm sp wr : Int32} {W : MW} {z : Nat → Int32} {L : Nat} {f n : Nat → Int32} {mv jp sd : Int32} (ho : w[43]? = some (oM pm ty rm sp wr)) (hz : w[44]? = some (aI 431 z)) (hzs : z 48 = sd) (hW : isW w W) (hsd : sd = 0 ∨ sd = 1) (ha : atL W L f mv jp) (hL : L < 4) (hf : okF f) (hn : nC f n) : Cl Γ yX7_worthLost XX7_worthLost 2 0 0 [.ref 43, .int (nI L)] w (rI (if mv = sd then wnO n sd - 100 else wnO n sd + 100) w) := by
  refine Cl.of (ls := [some (.ref 43), some (.int (nI L))]) rfl (by decide +kernel) (fun h => by cases h) (Nat.le_of_ble_eq_true rfl) rfl ?_
  obtain ⟨c49, c50, c51, c52, c53, c54, c55, c56, c57⟩ := id hW
  refine r_aload_n 1 dX7_worthLost_0 rfl rfl rfl ?_
  refine r_iload_n 2 dX7_worthLost_1 rfl rfl ?_
  refine r_callV0 5 dX7_worthLost_2 rfl (tX7_worthNow ho hz hzs hW hsd ha.1 hL hf hn) l_X7_183 mX7_worthNow rfl (by repeat (first | assumption | refine gs_eq ?_ | refine gs_ne (by omega) ?_ | exact is_of (by assumption) | refine gs_is ?_)) rfl (by decide) (Nat.le_of_ble_eq_true rfl) (by decide) (qI ?_)
  refine r_aload_n 6 dX7_worthLost_5 rfl rfl rfl ?_
  refine r_getf 9 dX7_worthLost_6 rfl f_X7_30.r (by repeat (first | assumption | refine gs_eq ?_ | refine gs_ne (by omega) ?_ | exact is_of (by assumption) | refine gs_is ?_)) rfl ?_
  refine r_iload_n 10 dX7_worthLost_9 rfl rfl ?_
  refine r_iald 11 dX7_worthLost_10 rfl (L) (by repeat (first | assumption | refine gs_eq ?_ | refine gs_ne (by omega) ?_ | exact is_of (by assumption) | refine gs_is ?_)) rfl hL (by decide) ?_
  rw [ha.2.1]
  refine r_aload_n 12 dX7_worthLost_11 rfl rfl rfl ?_
  refine r_getf 15 dX7_worthLost_12 rfl f_X7_7.r (by repeat (first | assumption | refine gs_eq ?_ | refine gs_ne (by omega) ?_ | exact is_of (by assumption) | refine gs_is ?_)) rfl ?_
  refine r_bipush (v := 48) 17 dX7_worthLost_15 rfl (by decide) ?_
  refine r_iald 18 dX7_worthLost_17 rfl (48) (by repeat (first | assumption | refine gs_eq ?_ | refine gs_ne (by omega) ?_ | exact is_of (by assumption) | refine gs_is ?_)) rfl (by decide) (by decide) ?_
  rw [hzs]
  refine r_icmp_ne 26 21 dX7_worthLost_18 (by decide) rfl (fun q18 => ?_) (fun q18 => ?_)
  · refine r_bipush (v := 100) 28 dX7_worthLost_26 rfl (by decide) ?_
    refine r_iadd 29 dX7_worthLost_28 rfl ?_
    refine r_iret dX7_worthLost_29 rfl (by decide) (by decide) ?_
    first | exact ⟨by rw [if_pos q18, Int32.sub_eq_add_neg], rfl⟩ | exact ⟨by rw [if_neg q18], rfl⟩
  · refine r_bipush (v := (-100)) 23 dX7_worthLost_21 rfl (by decide) ?_
    refine r_goto 28 dX7_worthLost_23 (by decide) ?_
    refine r_iadd 29 dX7_worthLost_28 rfl ?_
    refine r_iret dX7_worthLost_29 rfl (by decide) (by decide) ?_
    first | exact ⟨by rw [if_pos q18, Int32.sub_eq_add_neg], rfl⟩ | exact ⟨by rw [if_neg q18], rfl⟩

set_option maxRecDepth 100000 in
theorem tX7_isBetter {Γ : CT} {w : PW} {pm ty rm sp wr : Int32} {W : MW} {z : Nat → Int32} {L : Nat} {mv sd : Int32} {v b : Int32} (ho : w[43]? = some (oM pm ty rm sp wr)) (hz : w[44]? = some (aI 431 z)) (hzs : z 48 = sd) (hW : isW w W) (hsd : sd = 0 ∨ sd = 1) (hsL : W.2.1 L = mv) (hL : L < 4) : Cl Γ yX7_isBetter XX7_isBetter 0 0 0 [.ref 43, .int (nI L), .int v, .int b] w (rI (bI (if mv = sd then decide (b < v) else decide (v < b))) w) := by
  refine Cl.of (ls := [some (.ref 43), some (.int (nI L)), some (.int v), some (.int b)]) rfl (by decide +kernel) (fun h => by cases h) (Nat.le_of_ble_eq_true rfl) rfl ?_
  obtain ⟨c49, c50, c51, c52, c53, c54, c55, c56, c57⟩ := id hW
  refine r_aload_n 1 dX7_isBetter_0 rfl rfl rfl ?_
  refine r_getf 4 dX7_isBetter_1 rfl f_X7_30.r (by repeat (first | assumption | refine gs_eq ?_ | refine gs_ne (by omega) ?_ | exact is_of (by assumption) | refine gs_is ?_)) rfl ?_
  refine r_iload_n 5 dX7_isBetter_4 rfl rfl ?_
  refine r_iald 6 dX7_isBetter_5 rfl (L) (by repeat (first | assumption | refine gs_eq ?_ | refine gs_ne (by omega) ?_ | exact is_of (by assumption) | refine gs_is ?_)) rfl hL (by decide) ?_
  rw [hsL]
  refine r_aload_n 7 dX7_isBetter_6 rfl rfl rfl ?_
  refine r_getf 10 dX7_isBetter_7 rfl f_X7_7.r (by repeat (first | assumption | refine gs_eq ?_ | refine gs_ne (by omega) ?_ | exact is_of (by assumption) | refine gs_is ?_)) rfl ?_
  refine r_bipush (v := 48) 12 dX7_isBetter_10 rfl (by decide) ?_
  refine r_iald 13 dX7_isBetter_12 rfl (48) (by repeat (first | assumption | refine gs_eq ?_ | refine gs_ne (by omega) ?_ | exact is_of (by assumption) | refine gs_is ?_)) rfl (by decide) (by decide) ?_
  rw [hzs]
  refine r_icmp_ne 29 16 dX7_isBetter_13 (by decide) rfl (fun q13 => ?_) (fun q13 => ?_)
  · refine r_iload_n 30 dX7_isBetter_29 rfl rfl ?_
    refine r_iload_n 31 dX7_isBetter_30 rfl rfl ?_
    refine r_icmp_ge 38 34 dX7_isBetter_31 (by decide) rfl (fun q31 => ?_) (fun q31 => ?_)
    · refine r_iconst (v := 0) 39 dX7_isBetter_38 rfl (by decide) ?_
      refine r_bret dX7_isBetter_39 rfl (by first | exact Or.inl rfl | exact Or.inr rfl) (by decide) (by decide) ?_
      first | exact ⟨by rw [if_pos q13, decide_eq_true (Int32.not_le.mp q18)]; rfl, rfl⟩ | exact ⟨by rw [if_pos q13, decide_eq_false (Int32.not_lt.mpr q18)]; rfl, rfl⟩ | exact ⟨by rw [if_neg q13, decide_eq_true (Int32.not_le.mp q31)]; rfl, rfl⟩ | exact ⟨by rw [if_neg q13, decide_eq_false (Int32.not_lt.mpr q31)]; rfl, rfl⟩
    · refine r_iconst (v := 1) 35 dX7_isBetter_34 rfl (by decide) ?_
      refine r_goto 39 dX7_isBetter_35 (by decide) ?_
      refine r_bret dX7_isBetter_39 rfl (by first | exact Or.inl rfl | exact Or.inr rfl) (by decide) (by decide) ?_
      first | exact ⟨by rw [if_pos q13, decide_eq_true (Int32.not_le.mp q18)]; rfl, rfl⟩ | exact ⟨by rw [if_pos q13, decide_eq_false (Int32.not_lt.mpr q18)]; rfl, rfl⟩ | exact ⟨by rw [if_neg q13, decide_eq_true (Int32.not_le.mp q31)]; rfl, rfl⟩ | exact ⟨by rw [if_neg q13, decide_eq_false (Int32.not_lt.mpr q31)]; rfl, rfl⟩
  · refine r_iload_n 17 dX7_isBetter_16 rfl rfl ?_
    refine r_iload_n 18 dX7_isBetter_17 rfl rfl ?_
    refine r_icmp_le 25 21 dX7_isBetter_18 (by decide) rfl (fun q18 => ?_) (fun q18 => ?_)
    · refine r_iconst (v := 0) 26 dX7_isBetter_25 rfl (by decide) ?_
      refine r_goto 39 dX7_isBetter_26 (by decide) ?_
      refine r_bret dX7_isBetter_39 rfl (by first | exact Or.inl rfl | exact Or.inr rfl) (by decide) (by decide) ?_
      first | exact ⟨by rw [if_pos q13, decide_eq_true (Int32.not_le.mp q18)]; rfl, rfl⟩ | exact ⟨by rw [if_pos q13, decide_eq_false (Int32.not_lt.mpr q18)]; rfl, rfl⟩ | exact ⟨by rw [if_neg q13, decide_eq_true (Int32.not_le.mp q31)]; rfl, rfl⟩ | exact ⟨by rw [if_neg q13, decide_eq_false (Int32.not_lt.mpr q31)]; rfl, rfl⟩
    · refine r_iconst (v := 1) 22 dX7_isBetter_21 rfl (by decide) ?_
      refine r_goto 39 dX7_isBetter_22 (by decide) ?_
      refine r_bret dX7_isBetter_39 rfl (by first | exact Or.inl rfl | exact Or.inr rfl) (by decide) (by decide) ?_
      first | exact ⟨by rw [if_pos q13, decide_eq_true (Int32.not_le.mp q18)]; rfl, rfl⟩ | exact ⟨by rw [if_pos q13, decide_eq_false (Int32.not_lt.mpr q18)]; rfl, rfl⟩ | exact ⟨by rw [if_neg q13, decide_eq_true (Int32.not_le.mp q31)]; rfl, rfl⟩ | exact ⟨by rw [if_neg q13, decide_eq_false (Int32.not_lt.mpr q31)]; rfl, rfl⟩

theorem bs_t {mv sd b v : Int32} (h : (if mv = sd then decide (b < v) else decide (v < b)) = true) : (if decide (mv = sd) = true then b < v else v < b) := by
  by_cases e : mv = sd
  · rw [if_pos e] at h
    rw [if_pos (decide_eq_true e)]
    exact of_decide_eq_true h
  · rw [if_neg e] at h
    rw [if_neg (by rw [decide_eq_false e]; decide)]
    exact of_decide_eq_true h
theorem bs_f {mv sd b v : Int32} (h : (if mv = sd then decide (b < v) else decide (v < b)) = false) : ¬ (if decide (mv = sd) = true then b < v else v < b) := by
  by_cases e : mv = sd
  · rw [if_pos e] at h
    rw [if_pos (decide_eq_true e)]
    exact of_decide_eq_false h
  · rw [if_neg e] at h
    rw [if_neg (by rw [decide_eq_false e]; decide)]
    exact of_decide_eq_false h
set_option maxRecDepth 100000 in
theorem tX7_worthOfOne {Γ : CT} {w : PW} {pm ty rm sp wr : Int32} {W : MW} {z : Nat → Int32} {L : Nat} {f n : Nat → Int32} {mv jp sd : Int32} (ho : w[43]? = some (oM pm ty rm sp wr)) (hz : w[44]? = some (aI 431 z)) (hzs : z 48 = sd) (hW : isW w W) (hsd : sd = 0 ∨ sd = 1) (ha : atL W L f mv jp) (hL : L < 3) (hf : okF f) (hn : nC f n) (hmv : mv = 0 ∨ mv = 1) (hjj : jjO f mv jp) : Cl Γ yX7_worthOfOne XX7_worthOfOne 5 0 0 [.ref 43, .int (nI L)] w (rP (wB 1 f n mv jp sd) (toB w W L)) := by
  refine Cl.of (ls := [some (.ref 43), some (.int (nI L)), none, none, none]) rfl (by decide +kernel) (fun h => by cases h) (Nat.le_of_ble_eq_true rfl) rfl ?_
  refine r_aload_n 1 dX7_worthOfOne_0 rfl rfl rfl ?_
  refine r_iload_n 2 dX7_worthOfOne_1 rfl rfl ?_
  refine r_callV0 5 dX7_worthOfOne_2 rfl (tX7_listHops ho hW ha.1 hf (by omega) ha.2.1 ha.2.2 hmv hjj) l_X7_117 mX7_listHops rfl (by repeat (first | assumption | refine gs_eq ?_ | refine gs_ne (by omega) ?_ | exact is_of (by assumption) | refine gs_is ?_)) rfl (by decide) (Nat.le_of_ble_eq_true rfl) (by decide) (qN fun w1 hh => ?_)
  obtain ⟨hFh, V, hV, hVl, hVs⟩ := hh
  have oV := (hFh.2 43 (by unfold wS; omega)).trans ho
  have zV := (hFh.2 44 (by unfold wS; omega)).trans hz
  obtain ⟨v49, v50, v51, v52, v53, v54, v55, v56, v57⟩ := id hV
  have vh := hVl.2.1
  have hVa := ha.sm hVs
  refine r_aload_n 6 dX7_worthOfOne_5 rfl rfl rfl ?_
  refine r_getf 9 dX7_worthOfOne_6 rfl f_X7_36.r (by repeat (first | assumption | refine gs_eq ?_ | refine gs_ne (by omega) ?_ | exact is_of (by assumption) | refine gs_is ?_)) rfl ?_
  refine r_iload_n 10 dX7_worthOfOne_9 rfl rfl ?_
  refine r_iald 11 dX7_worthOfOne_10 rfl (L) (by repeat (first | assumption | refine gs_eq ?_ | refine gs_ne (by omega) ?_ | exact is_of (by assumption) | refine gs_is ?_)) rfl (by omega) (by decide) ?_
  rw [vh]
  refine r_if_ne 20 14 dX7_worthOfOne_11 (by decide) rfl (fun q11 => ?_) (fun q11 => ?_)
  · have hne : ¬ (hopsC f mv jp).length = 0 := fun z => q11 (by rw [z]; rfl)
    have loop : ∀ (m i : Nat) (u : PW) (U : MW) (best : Int32) (x4 : Option Value), i + m = (hopsC f mv jp).length → (Fr w u wS) → (isW u U) → (atL U L f mv jp) → (lsA U L (hopsC f mv jp)) → (smB W U L) → (bsO (decide (mv = sd)) (fun q => wB 0 (mkF f mv q) (mkN f n mv q) (mkM f mv q) (mkJ f mv q) sd) ((hopsC f mv jp).drop i) (decide (i = 0)) best = bsO (decide (mv = sd)) (fun q => wB 0 (mkF f mv q) (mkN f n mv q) (mkM f mv q) (mkJ f mv q) sd) (hopsC f mv jp) true 0) → (nl x4 = true) → Rn Γ XX7_worthOfOne (rmO 5 0 0) none (FinM (rP (wB 1 f n mv jp sd) (toB w W L)) 0 0) 0 0 u 24 [some (.ref 43), some (.int (nI L)), some (.int best), some (.int (nI i)), x4] [] := by
      intro m
      induction m with
      | zero =>
        intro i u U best x4 hi hF hU hUa hUl hUs hE e4
        have oU := (hF.2 43 (by unfold wS; omega)).trans ho
        have zU := (hF.2 44 (by unfold wS; omega)).trans hz
        obtain ⟨u49, u50, u51, u52, u53, u54, u55, u56, u57⟩ := id hU
        have uh := hUl.2.1
        have ul192 := hUl.1
        have h9 : i = (hopsC f mv jp).length := by omega
        subst h9
        rw [List.drop_length] at hE
        refine r_iload_n 25 dX7_worthOfOne_24 rfl rfl ?_
        refine r_aload_n 26 dX7_worthOfOne_25 rfl rfl rfl ?_
        refine r_getf 29 dX7_worthOfOne_26 rfl f_X7_36.r (by repeat (first | assumption | refine gs_eq ?_ | refine gs_ne (by omega) ?_ | exact is_of (by assumption) | refine gs_is ?_)) rfl ?_
        refine r_iload_n 30 dX7_worthOfOne_29 rfl rfl ?_
        refine r_iald 31 dX7_worthOfOne_30 rfl (L) (by repeat (first | assumption | refine gs_eq ?_ | refine gs_ne (by omega) ?_ | exact is_of (by assumption) | refine gs_is ?_)) rfl (by omega) (by decide) ?_
        rw [uh]
        refine r_icmp_ge 77 34 dX7_worthOfOne_31 (by decide) rfl (fun q31 => ?_) (fun q31 => absurd q31 (fun z => z (nI_le (by omega) (by omega))))
        refine r_iload_n 78 dX7_worthOfOne_77 rfl rfl ?_
        refine r_iret dX7_worthOfOne_78 rfl (by decide) (by decide) ?_
        exact ⟨by unfold wB; rw [if_neg hne, ← hE]; rfl, hF, U, hU, hUs⟩
      | succ m ih =>
        intro i u U best x4 hi hF hU hUa hUl hUs hE e4
        have oU := (hF.2 43 (by unfold wS; omega)).trans ho
        have zU := (hF.2 44 (by unfold wS; omega)).trans hz
        obtain ⟨u49, u50, u51, u52, u53, u54, u55, u56, u57⟩ := id hU
        have uh := hUl.2.1
        have ul192 := hUl.1
        obtain ⟨q, hq, hd⟩ := drop_c (l := hopsC f mv jp) (i := i) (by omega)
        have hgq := hopsC_go hmv (List.mem_of_getElem? hq)
        have fq := mkF_ok hgq hf
        have nq := nC_mk hgq hf hn
        have mq := mkM_01 (f := f) (q := q) hmv
        have jq := mkJ_jj hgq hf
        refine r_iload_n 25 dX7_worthOfOne_24 rfl rfl ?_
        refine r_aload_n 26 dX7_worthOfOne_25 rfl rfl rfl ?_
        refine r_getf 29 dX7_worthOfOne_26 rfl f_X7_36.r (by repeat (first | assumption | refine gs_eq ?_ | refine gs_ne (by omega) ?_ | exact is_of (by assumption) | refine gs_is ?_)) rfl ?_
        refine r_iload_n 30 dX7_worthOfOne_29 rfl rfl ?_
        refine r_iald 31 dX7_worthOfOne_30 rfl (L) (by repeat (first | assumption | refine gs_eq ?_ | refine gs_ne (by omega) ?_ | exact is_of (by assumption) | refine gs_is ?_)) rfl (by omega) (by decide) ?_
        rw [uh]
        refine r_icmp_ge 77 34 dX7_worthOfOne_31 (by decide) rfl (fun q31 => absurd q31 (nI_ge (by omega) (by omega))) (fun q31 => ?_)
        refine r_aload_n 35 dX7_worthOfOne_34 rfl rfl rfl ?_
        refine r_iload_n 36 dX7_worthOfOne_35 rfl rfl ?_
        refine r_iload_n 37 dX7_worthOfOne_36 rfl rfl ?_
        refine r_callV0 40 dX7_worthOfOne_37 rfl (tX7_go oU hU hUa.1 hUl (by omega) hq hgq hf hUa.2.1 hmv) l_X7_152 mX7_go rfl (by repeat (first | assumption | refine gs_eq ?_ | refine gs_ne (by omega) ?_ | exact is_of (by assumption) | refine gs_is ?_)) rfl (by decide) (Nat.le_of_ble_eq_true rfl) (by decide) (qN fun w2 hgo => ?_)
        obtain ⟨hF2, U2, hU2, gb2, gs2, gc2, gm2⟩ := hgo
        have oU2 := (hF2.2 43 (by unfold wS; omega)).trans oU
        have zU2 := (hF2.2 44 (by unfold wS; omega)).trans zU
        obtain ⟨y49, y50, y51, y52, y53, y54, y55, y56, y57⟩ := id hU2
        have ha2 : atL U2 (L + 1) (mkF f mv q) (mkM f mv q) (mkJ f mv q) := ⟨gb2, gs2, gc2⟩
        have hUa2 := hUa.lo gm2 (Nat.lt_succ_self L)
        have hUl2 := hUl.lo gm2.2.2 (Nat.lt_succ_self L)
        refine r_aload_n 41 dX7_worthOfOne_40 rfl rfl rfl ?_
        refine r_iload_n 42 dX7_worthOfOne_41 rfl rfl ?_
        refine r_iconst (v := 1) 43 dX7_worthOfOne_42 rfl (by decide) ?_
        refine r_iadd 44 dX7_worthOfOne_43 rfl ?_
        rw [nI_1]
        refine r_callV0 47 dX7_worthOfOne_44 rfl (tX7_worthNow oU2 zU2 hzs hU2 hsd gb2 (by omega) fq nq) l_X7_183 mX7_worthNow rfl (by repeat (first | assumption | refine gs_eq ?_ | refine gs_ne (by omega) ?_ | exact is_of (by assumption) | refine gs_is ?_)) rfl (by decide) (Nat.le_of_ble_eq_true rfl) (by decide) (qI ?_)
        have ew : wnO (mkN f n mv q) sd = wB 0 (mkF f mv q) (mkN f n mv q) (mkM f mv q) (mkJ f mv q) sd := rfl
        rw [ew]
        refine r_istore (ls1 := [_, _, _, _, _]) 49 dX7_worthOfOne_47 rfl (by decide) rfl rfl ?_
        refine r_iload_n 50 dX7_worthOfOne_49 rfl rfl ?_
        refine r_if_eq 64 53 dX7_worthOfOne_50 (by decide) rfl (fun q50 => ?_) (fun q50 => ?_)
        · refine r_iload 66 dX7_worthOfOne_64 rfl rfl ?_
          refine r_goto 70 dX7_worthOfOne_66 (by decide) ?_
          refine r_istore_n (ls1 := [_, _, _, _, _]) 71 dX7_worthOfOne_70 rfl (by decide) rfl rfl ?_
          refine r_iinc (ls1 := [_, _, _, _, _]) 74 dX7_worthOfOne_71 rfl (by decide) rfl rfl (nI_1 i) rfl ?_
          refine r_goto 24 dX7_worthOfOne_74 (by decide) ?_
          first
          | exact ih (i + 1) _ U2 _ _ (by omega) (hF.tr hF2) hU2 hUa2 hUl2 (hUs.tr (gm2.lo (Nat.le_succ L))) (by rw [← hE, hd]; (conv => rhs; unfold bsO); rw [if_pos (Or.inl (decide_eq_true ((nI_eq (b := 0) (by omega) (by decide)).mp q50)))]; rfl) rfl
          | exact ih (i + 1) _ U2 _ _ (by omega) (hF.tr hF2) hU2 hUa2 hUl2 (hUs.tr (gm2.lo (Nat.le_succ L))) (by rw [← hE, hd]; (conv => rhs; unfold bsO); rw [if_pos (Or.inr (bs_t (ne_f q61)))]; rfl) rfl
          | exact ih (i + 1) _ U2 _ _ (by omega) (hF.tr hF2) hU2 hUa2 hUl2 (hUs.tr (gm2.lo (Nat.le_succ L))) (by rw [← hE, hd]; (conv => rhs; unfold bsO); rw [if_neg (fun z => z.elim (fun y => q50 (by rw [of_decide_eq_true y]; rfl)) (bs_f (bI_0.mp q61)))]; rfl) rfl
        · refine r_aload_n 54 dX7_worthOfOne_53 rfl rfl rfl ?_
          refine r_iload_n 55 dX7_worthOfOne_54 rfl rfl ?_
          refine r_iload 57 dX7_worthOfOne_55 rfl rfl ?_
          refine r_iload_n 58 dX7_worthOfOne_57 rfl rfl ?_
          refine r_callV0 61 dX7_worthOfOne_58 rfl (tX7_isBetter oU2 zU2 hzs hU2 hsd hUa2.2.1 (by omega)) l_X7_189 mX7_isBetter rfl (by repeat (first | assumption | refine gs_eq ?_ | refine gs_ne (by omega) ?_ | exact is_of (by assumption) | refine gs_is ?_)) rfl (by decide) (Nat.le_of_ble_eq_true rfl) (by decide) (qI ?_)
          refine r_if_eq 69 64 dX7_worthOfOne_61 (by decide) rfl (fun q61 => ?_) (fun q61 => ?_)
          · refine r_iload_n 70 dX7_worthOfOne_69 rfl rfl ?_
            refine r_istore_n (ls1 := [_, _, _, _, _]) 71 dX7_worthOfOne_70 rfl (by decide) rfl rfl ?_
            refine r_iinc (ls1 := [_, _, _, _, _]) 74 dX7_worthOfOne_71 rfl (by decide) rfl rfl (nI_1 i) rfl ?_
            refine r_goto 24 dX7_worthOfOne_74 (by decide) ?_
            first
            | exact ih (i + 1) _ U2 _ _ (by omega) (hF.tr hF2) hU2 hUa2 hUl2 (hUs.tr (gm2.lo (Nat.le_succ L))) (by rw [← hE, hd]; (conv => rhs; unfold bsO); rw [if_pos (Or.inl (decide_eq_true ((nI_eq (b := 0) (by omega) (by decide)).mp q50)))]; rfl) rfl
            | exact ih (i + 1) _ U2 _ _ (by omega) (hF.tr hF2) hU2 hUa2 hUl2 (hUs.tr (gm2.lo (Nat.le_succ L))) (by rw [← hE, hd]; (conv => rhs; unfold bsO); rw [if_pos (Or.inr (bs_t (ne_f q61)))]; rfl) rfl
            | exact ih (i + 1) _ U2 _ _ (by omega) (hF.tr hF2) hU2 hUa2 hUl2 (hUs.tr (gm2.lo (Nat.le_succ L))) (by rw [← hE, hd]; (conv => rhs; unfold bsO); rw [if_neg (fun z => z.elim (fun y => q50 (by rw [of_decide_eq_true y]; rfl)) (bs_f (bI_0.mp q61)))]; rfl) rfl
          · refine r_iload 66 dX7_worthOfOne_64 rfl rfl ?_
            refine r_goto 70 dX7_worthOfOne_66 (by decide) ?_
            refine r_istore_n (ls1 := [_, _, _, _, _]) 71 dX7_worthOfOne_70 rfl (by decide) rfl rfl ?_
            refine r_iinc (ls1 := [_, _, _, _, _]) 74 dX7_worthOfOne_71 rfl (by decide) rfl rfl (nI_1 i) rfl ?_
            refine r_goto 24 dX7_worthOfOne_74 (by decide) ?_
            first
            | exact ih (i + 1) _ U2 _ _ (by omega) (hF.tr hF2) hU2 hUa2 hUl2 (hUs.tr (gm2.lo (Nat.le_succ L))) (by rw [← hE, hd]; (conv => rhs; unfold bsO); rw [if_pos (Or.inl (decide_eq_true ((nI_eq (b := 0) (by omega) (by decide)).mp q50)))]; rfl) rfl
            | exact ih (i + 1) _ U2 _ _ (by omega) (hF.tr hF2) hU2 hUa2 hUl2 (hUs.tr (gm2.lo (Nat.le_succ L))) (by rw [← hE, hd]; (conv => rhs; unfold bsO); rw [if_pos (Or.inr (bs_t (ne_f q61)))]; rfl) rfl
            | exact ih (i + 1) _ U2 _ _ (by omega) (hF.tr hF2) hU2 hUa2 hUl2 (hUs.tr (gm2.lo (Nat.le_succ L))) (by rw [← hE, hd]; (conv => rhs; unfold bsO); rw [if_neg (fun z => z.elim (fun y => q50 (by rw [of_decide_eq_true y]; rfl)) (bs_f (bI_0.mp q61)))]; rfl) rfl
    refine r_iconst (v := 0) 21 dX7_worthOfOne_20 rfl (by decide) ?_
    refine r_istore_n (ls1 := [_, _, _, _, _]) 22 dX7_worthOfOne_21 rfl (by decide) rfl rfl ?_
    refine r_iconst (v := nI 0) 23 dX7_worthOfOne_22 rfl (by decide) ?_
    refine r_istore_n (ls1 := [_, _, _, _, _]) 24 dX7_worthOfOne_23 rfl (by decide) rfl rfl ?_
    exact loop (hopsC f mv jp).length 0 w1 V 0 none (by omega) hFh hV hVa hVl hVs.B rfl rfl
  · refine r_aload_n 15 dX7_worthOfOne_14 rfl rfl rfl ?_
    refine r_iload_n 16 dX7_worthOfOne_15 rfl rfl ?_
    refine r_callV0 19 dX7_worthOfOne_16 rfl (tX7_worthLost oV zV hzs hV hsd hVa (by omega) hf hn) l_X7_186 mX7_worthLost rfl (by repeat (first | assumption | refine gs_eq ?_ | refine gs_ne (by omega) ?_ | exact is_of (by assumption) | refine gs_is ?_)) rfl (by decide) (Nat.le_of_ble_eq_true rfl) (by decide) (qI ?_)
    refine r_iret dX7_worthOfOne_19 rfl (by decide) (by decide) ?_
    exact ⟨by unfold wB; rw [if_pos (nI_z hVl.1 q11)], hFh, V, hV, hVs.B⟩

set_option maxRecDepth 100000 in
theorem tX7_rowsOfTwo {Γ : CT} {w : PW} {pm ty rm sp wr : Int32} {W : MW} {z : Nat → Int32} {L M : Nat} {f : Nat → Int32} {mv jp : Int32} (ho : w[43]? = some (oM pm ty rm sp wr)) (hz : w[44]? = some (aI 431 z)) (hW : isW w W) (ha : atL W L f mv jp) (hL : L < 3) (hf : okF f) (hmv : mv = 0 ∨ mv = 1) (hjj : jjO f mv jp) (hM : M ≤ 20000) : Cl Γ yX7_rowsOfTwo XX7_rowsOfTwo 6 0 0 [.ref 43, .int (nI L), .int (nI M)] w (rP (nI (mR 1 f mv jp M)) (toB w W L)) := by
  refine Cl.of (ls := [some (.ref 43), some (.int (nI L)), some (.int (nI M)), none, none]) rfl (by decide +kernel) (fun h => by cases h) (Nat.le_of_ble_eq_true rfl) rfl ?_
  refine r_aload_n 1 dX7_rowsOfTwo_0 rfl rfl rfl ?_
  refine r_iload_n 2 dX7_rowsOfTwo_1 rfl rfl ?_
  refine r_callV0 5 dX7_rowsOfTwo_2 rfl (tX7_listHops ho hW ha.1 hf (by omega) ha.2.1 ha.2.2 hmv hjj) l_X7_117 mX7_listHops rfl (by repeat (first | assumption | refine gs_eq ?_ | refine gs_ne (by omega) ?_ | exact is_of (by assumption) | refine gs_is ?_)) rfl (by decide) (Nat.le_of_ble_eq_true rfl) (by decide) (qN fun w1 hh => ?_)
  obtain ⟨hFh, V, hV, hVl, hVs⟩ := hh
  have oV := (hFh.2 43 (by unfold wS; omega)).trans ho
  have zV := (hFh.2 44 (by unfold wS; omega)).trans hz
  obtain ⟨v49, v50, v51, v52, v53, v54, v55, v56, v57⟩ := id hV
  have vh := hVl.2.1
  have hVa := ha.sm hVs
  have loop : ∀ (m i : Nat) (u : PW) (U : MW) (num : Nat), i + m = (hopsC f mv jp).length → (Fr w u wS) → (isW u U) → (atL U L f mv jp) → (lsA U L (hopsC f mv jp)) → (smB W U L) → (rowsL (fun q m => mR 0 (mkF f mv q) (mkM f mv q) (mkJ f mv q) m) ((hopsC f mv jp).drop i) M num = mR 1 f mv jp M) → (num ≤ M + 192) → Rn Γ XX7_rowsOfTwo (rmO 6 0 0) none (FinM (rP (nI (mR 1 f mv jp M)) (toB w W L)) 0 0) 0 0 u 10 [some (.ref 43), some (.int (nI L)), some (.int (nI M)), some (.int (nI num)), some (.int (nI i))] [] := by
    intro m
    induction m with
    | zero =>
      intro i u U num hi hF hU hUa hUl hUs hE hnum
      have oU := (hF.2 43 (by unfold wS; omega)).trans ho
      have zU := (hF.2 44 (by unfold wS; omega)).trans hz
      obtain ⟨u49, u50, u51, u52, u53, u54, u55, u56, u57⟩ := id hU
      have uh := hUl.2.1
      have ul192 := hUl.1
      have h9 : i = (hopsC f mv jp).length := by omega
      subst h9
      rw [List.drop_length] at hE
      refine r_iload 12 dX7_rowsOfTwo_10 rfl rfl ?_
      refine r_aload_n 13 dX7_rowsOfTwo_12 rfl rfl rfl ?_
      refine r_getf 16 dX7_rowsOfTwo_13 rfl f_X7_36.r (by repeat (first | assumption | refine gs_eq ?_ | refine gs_ne (by omega) ?_ | exact is_of (by assumption) | refine gs_is ?_)) rfl ?_
      refine r_iload_n 17 dX7_rowsOfTwo_16 rfl rfl ?_
      refine r_iald 18 dX7_rowsOfTwo_17 rfl (L) (by repeat (first | assumption | refine gs_eq ?_ | refine gs_ne (by omega) ?_ | exact is_of (by assumption) | refine gs_is ?_)) rfl (by omega) (by decide) ?_
      rw [uh]
      refine r_icmp_ge 57 21 dX7_rowsOfTwo_18 (by decide) rfl (fun q18 => ?_) (fun q18 => absurd q18 (fun z => z (nI_le (by omega) (by omega))))
      refine r_iload_n 58 dX7_rowsOfTwo_57 rfl rfl ?_
      refine r_iret dX7_rowsOfTwo_58 rfl (by decide) (by decide) ?_
      exact ⟨by rw [← hE]; rfl, hF, U, hU, hUs⟩
    | succ m ih =>
      intro i u U num hi hF hU hUa hUl hUs hE hnum
      have oU := (hF.2 43 (by unfold wS; omega)).trans ho
      have zU := (hF.2 44 (by unfold wS; omega)).trans hz
      obtain ⟨u49, u50, u51, u52, u53, u54, u55, u56, u57⟩ := id hU
      have uh := hUl.2.1
      have ul192 := hUl.1
      obtain ⟨q, hq, hd⟩ := drop_c (l := hopsC f mv jp) (i := i) (by omega)
      have hgq := hopsC_go hmv (List.mem_of_getElem? hq)
      have fq := mkF_ok hgq hf
      have mq := mkM_01 (f := f) (q := q) hmv
      have jq := mkJ_jj hgq hf
      refine r_iload 12 dX7_rowsOfTwo_10 rfl rfl ?_
      refine r_aload_n 13 dX7_rowsOfTwo_12 rfl rfl rfl ?_
      refine r_getf 16 dX7_rowsOfTwo_13 rfl f_X7_36.r (by repeat (first | assumption | refine gs_eq ?_ | refine gs_ne (by omega) ?_ | exact is_of (by assumption) | refine gs_is ?_)) rfl ?_
      refine r_iload_n 17 dX7_rowsOfTwo_16 rfl rfl ?_
      refine r_iald 18 dX7_rowsOfTwo_17 rfl (L) (by repeat (first | assumption | refine gs_eq ?_ | refine gs_ne (by omega) ?_ | exact is_of (by assumption) | refine gs_is ?_)) rfl (by omega) (by decide) ?_
      rw [uh]
      refine r_icmp_ge 57 21 dX7_rowsOfTwo_18 (by decide) rfl (fun q18 => absurd q18 (nI_ge (by omega) (by omega))) (fun q18 => ?_)
      refine r_iload_n 22 dX7_rowsOfTwo_21 rfl rfl ?_
      refine r_iload_n 23 dX7_rowsOfTwo_22 rfl rfl ?_
      refine r_icmp_ge 57 26 dX7_rowsOfTwo_23 (by decide) rfl (fun q23 => ?_) (fun q23 => ?_)
      · refine r_iload_n 58 dX7_rowsOfTwo_57 rfl rfl ?_
        refine r_iret dX7_rowsOfTwo_58 rfl (by decide) (by decide) ?_
        exact ⟨by rw [← hE, hd]; unfold rowsL; rw [if_neg (fun z => absurd (nI_lt z (by omega)) (Int32.not_lt.mpr q23))], hF, U, hU, hUs⟩
      · have hlt : num < M := by
          rcases Nat.lt_or_ge num M with h | h
          · exact h
          · exact absurd (nI_le h (by omega)) q23
        refine r_aload_n 27 dX7_rowsOfTwo_26 rfl rfl rfl ?_
        refine r_iload_n 28 dX7_rowsOfTwo_27 rfl rfl ?_
        refine r_iload 30 dX7_rowsOfTwo_28 rfl rfl ?_
        refine r_callV0 33 dX7_rowsOfTwo_30 rfl (tX7_go oU hU hUa.1 hUl (by omega) hq hgq hf hUa.2.1 hmv) l_X7_152 mX7_go rfl (by repeat (first | assumption | refine gs_eq ?_ | refine gs_ne (by omega) ?_ | exact is_of (by assumption) | refine gs_is ?_)) rfl (by decide) (Nat.le_of_ble_eq_true rfl) (by decide) (qN fun w2 hgo => ?_)
        obtain ⟨hF2, U2, hU2, gb2, gs2, gc2, gm2⟩ := hgo
        have oU2 := (hF2.2 43 (by unfold wS; omega)).trans oU
        have zU2 := (hF2.2 44 (by unfold wS; omega)).trans zU
        obtain ⟨y49, y50, y51, y52, y53, y54, y55, y56, y57⟩ := id hU2
        have ha2 : atL U2 (L + 1) (mkF f mv q) (mkM f mv q) (mkJ f mv q) := ⟨gb2, gs2, gc2⟩
        have hUa2 := hUa.lo gm2 (Nat.lt_succ_self L)
        have hUl2 := hUl.lo gm2.2.2 (Nat.lt_succ_self L)
        refine r_aload_n 34 dX7_rowsOfTwo_33 rfl rfl rfl ?_
        refine r_iload_n 35 dX7_rowsOfTwo_34 rfl rfl ?_
        refine r_iconst (v := 1) 36 dX7_rowsOfTwo_35 rfl (by decide) ?_
        refine r_iadd 37 dX7_rowsOfTwo_36 rfl ?_
        rw [nI_1]
        refine r_callV0 40 dX7_rowsOfTwo_37 rfl (tX7_listHops oU2 hU2 gb2 fq (by omega) gs2 gc2 mq jq) l_X7_117 mX7_listHops rfl (by repeat (first | assumption | refine gs_eq ?_ | refine gs_ne (by omega) ?_ | exact is_of (by assumption) | refine gs_is ?_)) rfl (by decide) (Nat.le_of_ble_eq_true rfl) (by decide) (qN fun w3 h3 => ?_)
        obtain ⟨hF3, U3, hU3, hl3, hs3⟩ := h3
        have oU3 := (hF3.2 43 (by unfold wS; omega)).trans oU2
        obtain ⟨t49, t50, t51, t52, t53, t54, t55, t56, t57⟩ := id hU3
        have th := hl3.2.1
        have l3 := hl3.1
        refine r_iload_n 41 dX7_rowsOfTwo_40 rfl rfl ?_
        refine r_aload_n 42 dX7_rowsOfTwo_41 rfl rfl rfl ?_
        refine r_getf 45 dX7_rowsOfTwo_42 rfl f_X7_36.r (by repeat (first | assumption | refine gs_eq ?_ | refine gs_ne (by omega) ?_ | exact is_of (by assumption) | refine gs_is ?_)) rfl ?_
        refine r_iload_n 46 dX7_rowsOfTwo_45 rfl rfl ?_
        refine r_iconst (v := 1) 47 dX7_rowsOfTwo_46 rfl (by decide) ?_
        refine r_iadd 48 dX7_rowsOfTwo_47 rfl ?_
        rw [nI_1]
        refine r_iald 49 dX7_rowsOfTwo_48 rfl (L + 1) (by repeat (first | assumption | refine gs_eq ?_ | refine gs_ne (by omega) ?_ | exact is_of (by assumption) | refine gs_is ?_)) rfl (by omega) (by decide) ?_
        rw [th]
        refine r_iadd 50 dX7_rowsOfTwo_49 rfl ?_
        rw [nI_add]
        refine r_istore_n (ls1 := [_, _, _, _, _]) 51 dX7_rowsOfTwo_50 rfl (by decide) rfl rfl ?_
        refine r_iinc (ls1 := [_, _, _, _, _]) 54 dX7_rowsOfTwo_51 rfl (by decide) rfl rfl (nI_1 i) rfl ?_
        refine r_goto 10 dX7_rowsOfTwo_54 (by decide) ?_
        exact ih (i + 1) _ U3 _ (by omega) ((hF.tr hF2).tr hF3) hU3 (hUa2.lo hs3.B (Nat.lt_succ_self L)) (hUl2.lo hs3.2.2.2 (Nat.lt_succ_self L)) (hUs.tr ((gm2.tr hs3.B).lo (Nat.le_succ L))) (by rw [← hE, hd]; (conv => rhs; unfold rowsL); rw [if_pos hlt]; rfl) (by have := l3; omega)
  refine r_iconst (v := nI 0) 6 dX7_rowsOfTwo_5 rfl (by decide) ?_
  refine r_istore_n (ls1 := [_, _, _, _, _]) 7 dX7_rowsOfTwo_6 rfl (by decide) rfl rfl ?_
  refine r_iconst (v := nI 0) 8 dX7_rowsOfTwo_7 rfl (by decide) ?_
  refine r_istore (ls1 := [_, _, _, _, _]) 10 dX7_rowsOfTwo_8 rfl (by decide) rfl rfl ?_
  exact loop (hopsC f mv jp).length 0 w1 V 0 (by omega) hFh hV hVa hVl hVs.B rfl (by omega)

set_option maxRecDepth 100000 in
theorem tX7_rowsOfThree {Γ : CT} {w : PW} {pm ty rm sp wr : Int32} {W : MW} {z : Nat → Int32} {f : Nat → Int32} {mv jp : Int32} (ho : w[43]? = some (oM pm ty rm sp wr)) (hz : w[44]? = some (aI 431 z)) (hzf : zF z f mv jp 0) (hW : isW w W) (hf : okF f) (hmv : mv = 0 ∨ mv = 1) (hjj : jjO f mv jp) : Cl Γ yX7_rowsOfThree XX7_rowsOfThree 7 0 0 [.ref 43] w (rP (nI (mR 2 f mv jp 20000)) (fun w1 => Fr w w1 wS ∧ ∃ V, isW w1 V)) := by
  refine Cl.of (ls := [some (.ref 43), none, none]) rfl (by decide +kernel) (fun h => by cases h) (Nat.le_of_ble_eq_true rfl) rfl ?_
  refine r_aload_n 1 dX7_rowsOfThree_0 rfl rfl rfl ?_
  refine r_callV0 4 dX7_rowsOfThree_1 rfl (tX7_look ho hz hzf hW hf hmv hjj) l_X7_124 mX7_look rfl (by repeat (first | assumption | refine gs_eq ?_ | refine gs_ne (by omega) ?_ | exact is_of (by assumption) | refine gs_is ?_)) rfl (by decide) (Nat.le_of_ble_eq_true rfl) (by decide) (qN fun w1 h1 => ?_)
  obtain ⟨hFh, V, hV, hb0, hsv0, hcv0, hVl⟩ := h1
  have hoz : hopsN f mv jp 0 = hopsC f mv jp := by unfold hopsN; rw [if_pos rfl]
  rw [hoz] at hVl
  have oV := (hFh.2 43 (by unfold wS; omega)).trans ho
  have zV := (hFh.2 44 (by unfold wS; omega)).trans hz
  obtain ⟨v49, v50, v51, v52, v53, v54, v55, v56, v57⟩ := id hV
  have hVa : atL V 0 f mv jp := ⟨hb0, hsv0, hcv0⟩
  have loop : ∀ (m i : Nat) (u : PW) (U : MW) (num : Nat), i + m = (hopsC f mv jp).length → (Fr w u wS) → (isW u U) → (atL U 0 f mv jp) → (lsA U 0 (hopsC f mv jp)) → (rowsL (fun q m => mR 1 (mkF f mv q) (mkM f mv q) (mkJ f mv q) m) ((hopsC f mv jp).drop i) 20000 num = mR 2 f mv jp 20000) → (num ≤ 20192) → Rn Γ XX7_rowsOfThree (rmO 7 0 0) none (FinM (rP (nI (mR 2 f mv jp 20000)) (fun w1 => Fr w w1 wS ∧ ∃ V, isW w1 V)) 0 0) 0 0 u 8 [some (.ref 43), some (.int (nI num)), some (.int (nI i))] [] := by
    intro m
    induction m with
    | zero =>
      intro i u U num hi hF hU hUa hUl hE hnum
      have oU := (hF.2 43 (by unfold wS; omega)).trans ho
      have zU := (hF.2 44 (by unfold wS; omega)).trans hz
      obtain ⟨u49, u50, u51, u52, u53, u54, u55, u56, u57⟩ := id hU
      have uh := hUl.2.1
      have ul192 := hUl.1
      have h9 : i = (hopsC f mv jp).length := by omega
      subst h9
      rw [List.drop_length] at hE
      refine r_iload_n 9 dX7_rowsOfThree_8 rfl rfl ?_
      refine r_aload_n 10 dX7_rowsOfThree_9 rfl rfl rfl ?_
      refine r_getf 13 dX7_rowsOfThree_10 rfl f_X7_36.r (by repeat (first | assumption | refine gs_eq ?_ | refine gs_ne (by omega) ?_ | exact is_of (by assumption) | refine gs_is ?_)) rfl ?_
      refine r_iconst (v := 0) 14 dX7_rowsOfThree_13 rfl (by decide) ?_
      refine r_iald 15 dX7_rowsOfThree_14 rfl (0) (by repeat (first | assumption | refine gs_eq ?_ | refine gs_ne (by omega) ?_ | exact is_of (by assumption) | refine gs_is ?_)) rfl (by omega) (by decide) ?_
      rw [uh]
      refine r_icmp_ge 50 18 dX7_rowsOfThree_15 (by decide) rfl (fun q15 => ?_) (fun q15 => absurd q15 (fun z => z (nI_le (by omega) (by omega))))
      refine r_iload_n 51 dX7_rowsOfThree_50 rfl rfl ?_
      refine r_iret dX7_rowsOfThree_51 rfl (by decide) (by decide) ?_
      exact ⟨by rw [← hE]; rfl, hF, U, hU⟩
    | succ m ih =>
      intro i u U num hi hF hU hUa hUl hE hnum
      have oU := (hF.2 43 (by unfold wS; omega)).trans ho
      have zU := (hF.2 44 (by unfold wS; omega)).trans hz
      obtain ⟨u49, u50, u51, u52, u53, u54, u55, u56, u57⟩ := id hU
      have uh := hUl.2.1
      have ul192 := hUl.1
      obtain ⟨q, hq, hd⟩ := drop_c (l := hopsC f mv jp) (i := i) (by omega)
      have hgq := hopsC_go hmv (List.mem_of_getElem? hq)
      have fq := mkF_ok hgq hf
      have mq := mkM_01 (f := f) (q := q) hmv
      have jq := mkJ_jj hgq hf
      refine r_iload_n 9 dX7_rowsOfThree_8 rfl rfl ?_
      refine r_aload_n 10 dX7_rowsOfThree_9 rfl rfl rfl ?_
      refine r_getf 13 dX7_rowsOfThree_10 rfl f_X7_36.r (by repeat (first | assumption | refine gs_eq ?_ | refine gs_ne (by omega) ?_ | exact is_of (by assumption) | refine gs_is ?_)) rfl ?_
      refine r_iconst (v := 0) 14 dX7_rowsOfThree_13 rfl (by decide) ?_
      refine r_iald 15 dX7_rowsOfThree_14 rfl (0) (by repeat (first | assumption | refine gs_eq ?_ | refine gs_ne (by omega) ?_ | exact is_of (by assumption) | refine gs_is ?_)) rfl (by omega) (by decide) ?_
      rw [uh]
      refine r_icmp_ge 50 18 dX7_rowsOfThree_15 (by decide) rfl (fun q15 => absurd q15 (nI_ge (by omega) (by omega))) (fun q15 => ?_)
      refine r_iload_n 19 dX7_rowsOfThree_18 rfl rfl ?_
      refine r_sipush (v := nI 20000) 22 dX7_rowsOfThree_19 rfl (by decide) ?_
      refine r_icmp_ge 50 25 dX7_rowsOfThree_22 (by decide) rfl (fun q22 => ?_) (fun q22 => ?_)
      · refine r_iload_n 51 dX7_rowsOfThree_50 rfl rfl ?_
        refine r_iret dX7_rowsOfThree_51 rfl (by decide) (by decide) ?_
        exact ⟨by rw [← hE, hd]; unfold rowsL; rw [if_neg (fun z => absurd (nI_lt z (by omega)) (Int32.not_lt.mpr q22))], hF, U, hU⟩
      · have hlt : num < 20000 := by
          rcases Nat.lt_or_ge num 20000 with h | h
          · exact h
          · exact absurd (nI_le h (by omega)) q22
        refine r_aload_n 26 dX7_rowsOfThree_25 rfl rfl rfl ?_
        refine r_iconst (v := nI 0) 27 dX7_rowsOfThree_26 rfl (by decide) ?_
        refine r_iload_n 28 dX7_rowsOfThree_27 rfl rfl ?_
        refine r_callV0 31 dX7_rowsOfThree_28 rfl (tX7_go (L := 0) oU hU hUa.1 hUl (by decide) hq hgq hf hUa.2.1 hmv) l_X7_152 mX7_go rfl (by repeat (first | assumption | refine gs_eq ?_ | refine gs_ne (by omega) ?_ | exact is_of (by assumption) | refine gs_is ?_)) rfl (by decide) (Nat.le_of_ble_eq_true rfl) (by decide) (qN fun w2 hgo => ?_)
        obtain ⟨hF2, U2, hU2, gb2, gs2, gc2, gm2⟩ := hgo
        have oU2 := (hF2.2 43 (by unfold wS; omega)).trans oU
        have zU2 := (hF2.2 44 (by unfold wS; omega)).trans zU
        obtain ⟨y49, y50, y51, y52, y53, y54, y55, y56, y57⟩ := id hU2
        have ha2 : atL U2 1 (mkF f mv q) (mkM f mv q) (mkJ f mv q) := ⟨gb2, gs2, gc2⟩
        have hUa2 := hUa.lo gm2 (Nat.lt_succ_self 0)
        have hUl2 := hUl.lo gm2.2.2 (Nat.lt_succ_self 0)
        refine r_iload_n 32 dX7_rowsOfThree_31 rfl rfl ?_
        refine r_aload_n 33 dX7_rowsOfThree_32 rfl rfl rfl ?_
        refine r_iconst (v := nI 1) 34 dX7_rowsOfThree_33 rfl (by decide) ?_
        refine r_sipush (v := nI 20000) 37 dX7_rowsOfThree_34 rfl (by decide) ?_
        refine r_iload_n 38 dX7_rowsOfThree_37 rfl rfl ?_
        refine r_isub 39 dX7_rowsOfThree_38 rfl ?_
        rw [pk_sub (by omega)]
        refine r_callV0 42 dX7_rowsOfThree_39 rfl (tX7_rowsOfTwo (L := 1) oU2 zU2 hU2 ha2 (by decide) fq mq jq (by omega)) l_X7_177 mX7_rowsOfTwo rfl (by repeat (first | assumption | refine gs_eq ?_ | refine gs_ne (by omega) ?_ | exact is_of (by assumption) | refine gs_is ?_)) rfl (by decide) (Nat.le_of_ble_eq_true rfl) (by decide) (qP fun w3 h3 => ?_)
        obtain ⟨hF3, U3, hU3, hs3⟩ := h3
        have hb3 := mR_b 1 (mkF f mv q) (mkM f mv q) (mkJ f mv q) (20000 - num) mq
        refine r_iadd 43 dX7_rowsOfThree_42 rfl ?_
        rw [nI_add]
        refine r_istore_n (ls1 := [_, _, _]) 44 dX7_rowsOfThree_43 rfl (by decide) rfl rfl ?_
        refine r_iinc (ls1 := [_, _, _]) 47 dX7_rowsOfThree_44 rfl (by decide) rfl rfl (nI_1 i) rfl ?_
        refine r_goto 8 dX7_rowsOfThree_47 (by decide) ?_
        exact ih (i + 1) _ U3 _ (by omega) ((hF.tr hF2).tr hF3) hU3 (hUa2.lo hs3 (by decide)) (hUl2.lo hs3.2.2 (by decide)) (by rw [← hE, hd]; (conv => rhs; unfold rowsL); rw [if_pos hlt]) (by omega)
  refine r_iconst (v := nI 0) 5 dX7_rowsOfThree_4 rfl (by decide) ?_
  refine r_istore_n (ls1 := [_, _, _]) 6 dX7_rowsOfThree_5 rfl (by decide) rfl rfl ?_
  refine r_iconst (v := nI 0) 7 dX7_rowsOfThree_6 rfl (by decide) ?_
  refine r_istore_n (ls1 := [_, _, _]) 8 dX7_rowsOfThree_7 rfl (by decide) rfl rfl ?_
  exact loop (hopsC f mv jp).length 0 w1 V 0 (by omega) hFh hV hVa hVl rfl (by omega)

set_option maxRecDepth 100000 in
theorem tX7_worthOfTwo {Γ : CT} {w : PW} {pm ty rm sp wr : Int32} {W : MW} {z : Nat → Int32} {f n : Nat → Int32} {mv jp : Int32} (ho : w[43]? = some (oM pm ty rm sp wr)) (hz : w[44]? = some (aI 431 z)) (hzf : zF z f mv jp 0) (hW : isW w W) (hf : okF f) (hmv : mv = 0 ∨ mv = 1) (hjj : jjO f mv jp) (hn : nC f n) (hne : ¬ (hopsC f mv jp).length = 0) : Cl Γ yX7_worthOfTwo XX7_worthOfTwo 6 0 0 [.ref 43] w (rP (wB 2 f n mv jp mv) (fun w1 => Fr w w1 wS ∧ ∃ V, isW w1 V)) := by
  refine Cl.of (ls := [some (.ref 43), none, none, none]) rfl (by decide +kernel) (fun h => by cases h) (Nat.le_of_ble_eq_true rfl) rfl ?_
  have hzs : z 48 = mv := hzf.2.1
  refine r_aload_n 1 dX7_worthOfTwo_0 rfl rfl rfl ?_
  refine r_callV0 4 dX7_worthOfTwo_1 rfl (tX7_look ho hz hzf hW hf hmv hjj) l_X7_124 mX7_look rfl (by repeat (first | assumption | refine gs_eq ?_ | refine gs_ne (by omega) ?_ | exact is_of (by assumption) | refine gs_is ?_)) rfl (by decide) (Nat.le_of_ble_eq_true rfl) (by decide) (qN fun w1 h1 => ?_)
  obtain ⟨hFh, V, hV, hb0, hsv0, hcv0, hVl⟩ := h1
  have hoz : hopsN f mv jp 0 = hopsC f mv jp := by unfold hopsN; rw [if_pos rfl]
  rw [hoz] at hVl
  have oV := (hFh.2 43 (by unfold wS; omega)).trans ho
  have zV := (hFh.2 44 (by unfold wS; omega)).trans hz
  obtain ⟨v49, v50, v51, v52, v53, v54, v55, v56, v57⟩ := id hV
  have hVa : atL V 0 f mv jp := ⟨hb0, hsv0, hcv0⟩
  have loop : ∀ (m i : Nat) (u : PW) (U : MW) (best : Int32) (x3 : Option Value), i + m = (hopsC f mv jp).length → (Fr w u wS) → (isW u U) → (atL U 0 f mv jp) → (lsA U 0 (hopsC f mv jp)) → (bsO (decide (mv = mv)) (fun q => wB 1 (mkF f mv q) (mkN f n mv q) (mkM f mv q) (mkJ f mv q) mv) ((hopsC f mv jp).drop i) (decide (i = 0)) best = bsO (decide (mv = mv)) (fun q => wB 1 (mkF f mv q) (mkN f n mv q) (mkM f mv q) (mkJ f mv q) mv) (hopsC f mv jp) true 0) → (nl x3 = true) → Rn Γ XX7_worthOfTwo (rmO 6 0 0) none (FinM (rP (wB 2 f n mv jp mv) (fun w1 => Fr w w1 wS ∧ ∃ V, isW w1 V)) 0 0) 0 0 u 8 [some (.ref 43), some (.int best), some (.int (nI i)), x3] [] := by
    intro m
    induction m with
    | zero =>
      intro i u U best x3 hi hF hU hUa hUl hE e3
      have oU := (hF.2 43 (by unfold wS; omega)).trans ho
      have zU := (hF.2 44 (by unfold wS; omega)).trans hz
      obtain ⟨u49, u50, u51, u52, u53, u54, u55, u56, u57⟩ := id hU
      have uh := hUl.2.1
      have ul192 := hUl.1
      have h9 : i = (hopsC f mv jp).length := by omega
      subst h9
      rw [List.drop_length] at hE
      refine r_iload_n 9 dX7_worthOfTwo_8 rfl rfl ?_
      refine r_aload_n 10 dX7_worthOfTwo_9 rfl rfl rfl ?_
      refine r_getf 13 dX7_worthOfTwo_10 rfl f_X7_36.r (by repeat (first | assumption | refine gs_eq ?_ | refine gs_ne (by omega) ?_ | exact is_of (by assumption) | refine gs_is ?_)) rfl ?_
      refine r_iconst (v := 0) 14 dX7_worthOfTwo_13 rfl (by decide) ?_
      refine r_iald 15 dX7_worthOfTwo_14 rfl (0) (by repeat (first | assumption | refine gs_eq ?_ | refine gs_ne (by omega) ?_ | exact is_of (by assumption) | refine gs_is ?_)) rfl (by omega) (by decide) ?_
      rw [uh]
      refine r_icmp_ge 56 18 dX7_worthOfTwo_15 (by decide) rfl (fun q15 => ?_) (fun q15 => absurd q15 (fun z => z (nI_le (by omega) (by omega))))
      refine r_iload_n 57 dX7_worthOfTwo_56 rfl rfl ?_
      refine r_iret dX7_worthOfTwo_57 rfl (by decide) (by decide) ?_
      exact ⟨by unfold wB; rw [if_neg hne, ← hE]; rfl, hF, U, hU⟩
    | succ m ih =>
      intro i u U best x3 hi hF hU hUa hUl hE e3
      have oU := (hF.2 43 (by unfold wS; omega)).trans ho
      have zU := (hF.2 44 (by unfold wS; omega)).trans hz
      obtain ⟨u49, u50, u51, u52, u53, u54, u55, u56, u57⟩ := id hU
      have uh := hUl.2.1
      have ul192 := hUl.1
      obtain ⟨q, hq, hd⟩ := drop_c (l := hopsC f mv jp) (i := i) (by omega)
      have hgq := hopsC_go hmv (List.mem_of_getElem? hq)
      have fq := mkF_ok hgq hf
      have nq := nC_mk hgq hf hn
      have mq := mkM_01 (f := f) (q := q) hmv
      have jq := mkJ_jj hgq hf
      refine r_iload_n 9 dX7_worthOfTwo_8 rfl rfl ?_
      refine r_aload_n 10 dX7_worthOfTwo_9 rfl rfl rfl ?_
      refine r_getf 13 dX7_worthOfTwo_10 rfl f_X7_36.r (by repeat (first | assumption | refine gs_eq ?_ | refine gs_ne (by omega) ?_ | exact is_of (by assumption) | refine gs_is ?_)) rfl ?_
      refine r_iconst (v := 0) 14 dX7_worthOfTwo_13 rfl (by decide) ?_
      refine r_iald 15 dX7_worthOfTwo_14 rfl (0) (by repeat (first | assumption | refine gs_eq ?_ | refine gs_ne (by omega) ?_ | exact is_of (by assumption) | refine gs_is ?_)) rfl (by omega) (by decide) ?_
      rw [uh]
      refine r_icmp_ge 56 18 dX7_worthOfTwo_15 (by decide) rfl (fun q15 => absurd q15 (nI_ge (by omega) (by omega))) (fun q15 => ?_)
      refine r_aload_n 19 dX7_worthOfTwo_18 rfl rfl rfl ?_
      refine r_iconst (v := nI 0) 20 dX7_worthOfTwo_19 rfl (by decide) ?_
      refine r_iload_n 21 dX7_worthOfTwo_20 rfl rfl ?_
      refine r_callV0 24 dX7_worthOfTwo_21 rfl (tX7_go (L := 0) oU hU hUa.1 hUl (by decide) hq hgq hf hUa.2.1 hmv) l_X7_152 mX7_go rfl (by repeat (first | assumption | refine gs_eq ?_ | refine gs_ne (by omega) ?_ | exact is_of (by assumption) | refine gs_is ?_)) rfl (by decide) (Nat.le_of_ble_eq_true rfl) (by decide) (qN fun w2 hgo => ?_)
      obtain ⟨hF2, U2, hU2, gb2, gs2, gc2, gm2⟩ := hgo
      have oU2 := (hF2.2 43 (by unfold wS; omega)).trans oU
      have zU2 := (hF2.2 44 (by unfold wS; omega)).trans zU
      obtain ⟨y49, y50, y51, y52, y53, y54, y55, y56, y57⟩ := id hU2
      have ha2 : atL U2 1 (mkF f mv q) (mkM f mv q) (mkJ f mv q) := ⟨gb2, gs2, gc2⟩
      have hUa2 := hUa.lo gm2 (Nat.lt_succ_self 0)
      have hUl2 := hUl.lo gm2.2.2 (Nat.lt_succ_self 0)
      refine r_aload_n 25 dX7_worthOfTwo_24 rfl rfl rfl ?_
      refine r_iconst (v := nI 1) 26 dX7_worthOfTwo_25 rfl (by decide) ?_
      refine r_callV0 29 dX7_worthOfTwo_26 rfl (tX7_worthOfOne (L := 1) oU2 zU2 hzs hU2 hmv ha2 (by decide) fq nq mq jq) l_X7_192 mX7_worthOfOne rfl (by repeat (first | assumption | refine gs_eq ?_ | refine gs_ne (by omega) ?_ | exact is_of (by assumption) | refine gs_is ?_)) rfl (by decide) (Nat.le_of_ble_eq_true rfl) (by decide) (qP fun w3 h3 => ?_)
      obtain ⟨hF3, U3, hU3, hs3⟩ := h3
      have hUa3 := hUa2.lo hs3 (by decide)
      have oU3 := (hF3.2 43 (by unfold wS; omega)).trans oU2
      have zU3 := (hF3.2 44 (by unfold wS; omega)).trans zU2
      refine r_istore_n (ls1 := [_, _, _, _]) 30 dX7_worthOfTwo_29 rfl (by decide) rfl rfl ?_
      refine r_iload_n 31 dX7_worthOfTwo_30 rfl rfl ?_
      refine r_if_eq 44 34 dX7_worthOfTwo_31 (by decide) rfl (fun q31 => ?_) (fun q31 => ?_)
      · refine r_iload_n 45 dX7_worthOfTwo_44 rfl rfl ?_
        refine r_goto 49 dX7_worthOfTwo_45 (by decide) ?_
        refine r_istore_n (ls1 := [_, _, _, _]) 50 dX7_worthOfTwo_49 rfl (by decide) rfl rfl ?_
        refine r_iinc (ls1 := [_, _, _, _]) 53 dX7_worthOfTwo_50 rfl (by decide) rfl rfl (nI_1 i) rfl ?_
        refine r_goto 8 dX7_worthOfTwo_53 (by decide) ?_
        first
        | exact ih (i + 1) _ U3 _ _ (by omega) ((hF.tr hF2).tr hF3) hU3 hUa3 (hUl2.lo hs3.2.2 (by decide)) (by rw [← hE, hd]; (conv => rhs; unfold bsO); rw [if_pos (Or.inl (decide_eq_true ((nI_eq (b := 0) (by omega) (by decide)).mp q31)))]; rfl) rfl
        | exact ih (i + 1) _ U3 _ _ (by omega) ((hF.tr hF2).tr hF3) hU3 hUa3 (hUl2.lo hs3.2.2 (by decide)) (by rw [← hE, hd]; (conv => rhs; unfold bsO); rw [if_pos (Or.inr (bs_t (ne_f q41)))]; rfl) rfl
        | exact ih (i + 1) _ U3 _ _ (by omega) ((hF.tr hF2).tr hF3) hU3 hUa3 (hUl2.lo hs3.2.2 (by decide)) (by rw [← hE, hd]; (conv => rhs; unfold bsO); rw [if_neg (fun z => z.elim (fun y => q31 (by rw [of_decide_eq_true y]; rfl)) (bs_f (bI_0.mp q41)))]; rfl) rfl
      · refine r_aload_n 35 dX7_worthOfTwo_34 rfl rfl rfl ?_
        refine r_iconst (v := nI 0) 36 dX7_worthOfTwo_35 rfl (by decide) ?_
        refine r_iload_n 37 dX7_worthOfTwo_36 rfl rfl ?_
        refine r_iload_n 38 dX7_worthOfTwo_37 rfl rfl ?_
        refine r_callV0 41 dX7_worthOfTwo_38 rfl (tX7_isBetter (L := 0) oU3 zU3 hzs hU3 hmv hUa3.2.1 (by decide)) l_X7_189 mX7_isBetter rfl (by repeat (first | assumption | refine gs_eq ?_ | refine gs_ne (by omega) ?_ | exact is_of (by assumption) | refine gs_is ?_)) rfl (by decide) (Nat.le_of_ble_eq_true rfl) (by decide) (qI ?_)
        refine r_if_eq 48 44 dX7_worthOfTwo_41 (by decide) rfl (fun q41 => ?_) (fun q41 => ?_)
        · refine r_iload_n 49 dX7_worthOfTwo_48 rfl rfl ?_
          refine r_istore_n (ls1 := [_, _, _, _]) 50 dX7_worthOfTwo_49 rfl (by decide) rfl rfl ?_
          refine r_iinc (ls1 := [_, _, _, _]) 53 dX7_worthOfTwo_50 rfl (by decide) rfl rfl (nI_1 i) rfl ?_
          refine r_goto 8 dX7_worthOfTwo_53 (by decide) ?_
          first
          | exact ih (i + 1) _ U3 _ _ (by omega) ((hF.tr hF2).tr hF3) hU3 hUa3 (hUl2.lo hs3.2.2 (by decide)) (by rw [← hE, hd]; (conv => rhs; unfold bsO); rw [if_pos (Or.inl (decide_eq_true ((nI_eq (b := 0) (by omega) (by decide)).mp q31)))]; rfl) rfl
          | exact ih (i + 1) _ U3 _ _ (by omega) ((hF.tr hF2).tr hF3) hU3 hUa3 (hUl2.lo hs3.2.2 (by decide)) (by rw [← hE, hd]; (conv => rhs; unfold bsO); rw [if_pos (Or.inr (bs_t (ne_f q41)))]; rfl) rfl
          | exact ih (i + 1) _ U3 _ _ (by omega) ((hF.tr hF2).tr hF3) hU3 hUa3 (hUl2.lo hs3.2.2 (by decide)) (by rw [← hE, hd]; (conv => rhs; unfold bsO); rw [if_neg (fun z => z.elim (fun y => q31 (by rw [of_decide_eq_true y]; rfl)) (bs_f (bI_0.mp q41)))]; rfl) rfl
        · refine r_iload_n 45 dX7_worthOfTwo_44 rfl rfl ?_
          refine r_goto 49 dX7_worthOfTwo_45 (by decide) ?_
          refine r_istore_n (ls1 := [_, _, _, _]) 50 dX7_worthOfTwo_49 rfl (by decide) rfl rfl ?_
          refine r_iinc (ls1 := [_, _, _, _]) 53 dX7_worthOfTwo_50 rfl (by decide) rfl rfl (nI_1 i) rfl ?_
          refine r_goto 8 dX7_worthOfTwo_53 (by decide) ?_
          first
          | exact ih (i + 1) _ U3 _ _ (by omega) ((hF.tr hF2).tr hF3) hU3 hUa3 (hUl2.lo hs3.2.2 (by decide)) (by rw [← hE, hd]; (conv => rhs; unfold bsO); rw [if_pos (Or.inl (decide_eq_true ((nI_eq (b := 0) (by omega) (by decide)).mp q31)))]; rfl) rfl
          | exact ih (i + 1) _ U3 _ _ (by omega) ((hF.tr hF2).tr hF3) hU3 hUa3 (hUl2.lo hs3.2.2 (by decide)) (by rw [← hE, hd]; (conv => rhs; unfold bsO); rw [if_pos (Or.inr (bs_t (ne_f q41)))]; rfl) rfl
          | exact ih (i + 1) _ U3 _ _ (by omega) ((hF.tr hF2).tr hF3) hU3 hUa3 (hUl2.lo hs3.2.2 (by decide)) (by rw [← hE, hd]; (conv => rhs; unfold bsO); rw [if_neg (fun z => z.elim (fun y => q31 (by rw [of_decide_eq_true y]; rfl)) (bs_f (bI_0.mp q41)))]; rfl) rfl
  refine r_iconst (v := 0) 5 dX7_worthOfTwo_4 rfl (by decide) ?_
  refine r_istore_n (ls1 := [_, _, _, _]) 6 dX7_worthOfTwo_5 rfl (by decide) rfl rfl ?_
  refine r_iconst (v := nI 0) 7 dX7_worthOfTwo_6 rfl (by decide) ?_
  refine r_istore_n (ls1 := [_, _, _, _]) 8 dX7_worthOfTwo_7 rfl (by decide) rfl rfl ?_
  exact loop (hopsC f mv jp).length 0 w1 V 0 none (by omega) hFh hV hVa hVl rfl rfl

