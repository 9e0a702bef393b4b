/-! ===== a hop made on a board; a third of a position; the board behind a hop ===== -/
theorem r_top {Γ : CT} {X : MX} {R : Room} {sc : Option (Nat × (Nat → Int32))} {FZ : FX} {kc ks : Nat} {w : PW} {pc : Nat} {ls : List (Option Value)} {st : List Value} {a : Int32} (b : Int32) (h : a = b) (k : Rn Γ X R sc FZ kc ks w pc ls (.int b :: st)) : Rn Γ X R sc FZ kc ks w pc ls (.int a :: st) := h ▸ k
theorem r_topl {Γ : CT} {X : MX} {R : Room} {sc : Option (Nat × (Nat → Int32))} {FZ : FX} {kc ks : Nat} {w : PW} {pc : Nat} {ls : List (Option Value)} {st : List Value} {a : Int64} (b : Int64) (h : a = b) (k : Rn Γ X R sc FZ kc ks w pc ls (.long b :: st)) : Rn Γ X R sc FZ kc ks w pc ls (.long a :: st) := h ▸ k
def crO (p s k : Int32) : Bool := if p = 0 then decide (8 ≤ s / 6 + k) else if p = 2 then decide (s / 6 - k < 0) else false
def mkP (f : Nat → Int32) (mv : Int32) (q : HP) : Int32 := if crO (f q.1) (nI q.1) (nI q.2.2.2.1) = true then (if mv = 0 then 1 else 3) else f q.1
def mkF (f : Nat → Int32) (mv : Int32) (q : HP) : Nat → Int32 := plF (plF (plF f (nI q.1) (-6)) q.2.2.2.2 (-6)) (nI q.2.1) (mkP f mv q)
def mkN (f n : Nat → Int32) (mv : Int32) (q : HP) : Nat → Int32 := plN (plF (plF f (nI q.1) (-6)) q.2.2.2.2 (-6)) (plN (plF f (nI q.1) (-6)) (plN f n (nI q.1) (-6)) q.2.2.2.2 (-6)) (nI q.2.1) (mkP f mv q)
def mkJ (f : Nat → Int32) (mv : Int32) (q : HP) : Int32 := if ¬ q.2.2.2.2 = -6 ∧ canJ (mkF f mv q) q.2.1 = true then nI q.2.1 else -6
def mkM (f : Nat → Int32) (mv : Int32) (q : HP) : Int32 := if mkJ f mv q = -6 then 1 - mv else mv
set_option maxRecDepth 100000 in
theorem tX6_isCrowned {Γ : CT} {w : PW} {p s k : Int32}  : Cl Γ yX6_isCrowned XX6_isCrowned 1 0 0 [.int p, .int s, .int k] w (rI (bI (crO p s k)) w) := by
  refine Cl.of (ls := [some (.int p), some (.int s), some (.int k)]) rfl (by decide +kernel) (fun h => by cases h) (Nat.le_of_ble_eq_true rfl) rfl ?_
  refine r_iload_n 1 dX6_isCrowned_0 rfl rfl ?_
  refine r_if_ne 21 4 dX6_isCrowned_1 (by decide) rfl (fun q1 => ?_) (fun q1 => ?_)
  · refine r_iload_n 22 dX6_isCrowned_21 rfl rfl ?_
    refine r_iconst (v := 2) 23 dX6_isCrowned_22 rfl (by decide) ?_
    refine r_icmp_ne 39 26 dX6_isCrowned_23 (by decide) rfl (fun q23 => ?_) (fun q23 => ?_)
    · refine r_iconst (v := 0) 40 dX6_isCrowned_39 rfl (by decide) ?_
      refine r_bret dX6_isCrowned_40 rfl (by first | exact Or.inl rfl | exact Or.inr rfl) (by decide) (by decide) ?_
      first | exact ⟨by rw [crO, if_neg q1, if_pos q23, decide_eq_true (Int32.not_le.mp q32)]; rfl, rfl⟩ | exact ⟨by rw [crO, if_neg q1, if_pos q23, decide_eq_false (Int32.not_lt.mpr q32)]; rfl, rfl⟩ | exact ⟨by rw [crO, if_neg q1, if_neg q23]; rfl, rfl⟩
    · refine r_iload_n 27 dX6_isCrowned_26 rfl rfl ?_
      refine r_callS0 30 dX6_isCrowned_27 rfl (tX6_rowOf) l_X6_133 mX6_rowOf rfl (by decide) (Nat.le_of_ble_eq_true rfl) (by decide) (qI ?_)
      refine r_iload_n 31 dX6_isCrowned_30 rfl rfl ?_
      refine r_isub 32 dX6_isCrowned_31 rfl ?_
      refine r_if_ge 39 35 dX6_isCrowned_32 (by decide) rfl (fun q32 => ?_) (fun q32 => ?_)
      · refine r_iconst (v := 0) 40 dX6_isCrowned_39 rfl (by decide) ?_
        refine r_bret dX6_isCrowned_40 rfl (by first | exact Or.inl rfl | exact Or.inr rfl) (by decide) (by decide) ?_
        first | exact ⟨by rw [crO, if_neg q1, if_pos q23, decide_eq_true (Int32.not_le.mp q32)]; rfl, rfl⟩ | exact ⟨by rw [crO, if_neg q1, if_pos q23, decide_eq_false (Int32.not_lt.mpr q32)]; rfl, rfl⟩ | exact ⟨by rw [crO, if_neg q1, if_neg q23]; rfl, rfl⟩
      · refine r_iconst (v := 1) 36 dX6_isCrowned_35 rfl (by decide) ?_
        refine r_goto 40 dX6_isCrowned_36 (by decide) ?_
        refine r_bret dX6_isCrowned_40 rfl (by first | exact Or.inl rfl | exact Or.inr rfl) (by decide) (by decide) ?_
        first | exact ⟨by rw [crO, if_neg q1, if_pos q23, decide_eq_true (Int32.not_le.mp q32)]; rfl, rfl⟩ | exact ⟨by rw [crO, if_neg q1, if_pos q23, decide_eq_false (Int32.not_lt.mpr q32)]; rfl, rfl⟩ | exact ⟨by rw [crO, if_neg q1, if_neg q23]; rfl, rfl⟩
  · refine r_iload_n 5 dX6_isCrowned_4 rfl rfl ?_
    refine r_callS0 8 dX6_isCrowned_5 rfl (tX6_rowOf) l_X6_133 mX6_rowOf rfl (by decide) (Nat.le_of_ble_eq_true rfl) (by decide) (qI ?_)
    refine r_iload_n 9 dX6_isCrowned_8 rfl rfl ?_
    refine r_iadd 10 dX6_isCrowned_9 rfl ?_
    refine r_bipush (v := 8) 12 dX6_isCrowned_10 rfl (by decide) ?_
    refine r_icmp_lt 19 15 dX6_isCrowned_12 (by decide) rfl (fun q12 => ?_) (fun q12 => ?_)
    · refine r_iconst (v := 0) 20 dX6_isCrowned_19 rfl (by decide) ?_
      refine r_bret dX6_isCrowned_20 rfl (by first | exact Or.inl rfl | exact Or.inr rfl) (by decide) (by decide) ?_
      first | exact ⟨by rw [crO, if_pos q1, decide_eq_true (Int32.not_lt.mp q12)]; rfl, rfl⟩ | exact ⟨by rw [crO, if_pos q1, decide_eq_false (Int32.not_le.mpr q12)]; rfl, rfl⟩
    · refine r_iconst (v := 1) 16 dX6_isCrowned_15 rfl (by decide) ?_
      refine r_goto 20 dX6_isCrowned_16 (by decide) ?_
      refine r_bret dX6_isCrowned_20 rfl (by first | exact Or.inl rfl | exact Or.inr rfl) (by decide) (by decide) ?_
      first | exact ⟨by rw [crO, if_pos q1, decide_eq_true (Int32.not_lt.mp q12)]; rfl, rfl⟩ | exact ⟨by rw [crO, if_pos q1, decide_eq_false (Int32.not_le.mpr q12)]; rfl, rfl⟩

theorem apH.hh {b h q : Nat} (k : apH b h) (h1 : h ≤ q) (h2 : q < h + 6) : ¬ bS b q := by
  unfold bS
  unfold apH at k
  omega
set_option maxRecDepth 100000 in
theorem tX0_make {Γ : CT} {w : PW} {b h : Nat} {f n : Nat → Int32} {mv jp : Int32} {l : List HP} {j : Nat} {q : HP} (hb : isBd w b f n mv jp) (hh : isHp w h l) (hap : apH b h) (hq : l[j]? = some q) (hto : q.2.1 < 48) (hfr : q.1 < 48) : Cl Γ yX0_make XX0_make 4 0 0 [.ref b, .ref h, .int (nI j)] w (rN (toBd w b (mkF f mv q) (mkN f n mv q) (mkM f mv q) (mkJ f mv q))) := by
  refine Cl.of (ls := [some (.ref b), some (.ref h), some (.int (nI j)), none, none, none, none, none]) rfl (by decide +kernel) (fun h => by cases h) (Nat.le_of_ble_eq_true rfl) rfl ?_
  refine r_aload_n 1 dX0_make_0 rfl rfl rfl ?_
  refine r_iload_n 2 dX0_make_1 rfl rfl ?_
  refine r_callV0 5 dX0_make_2 rfl (tX3_from hh hq) l_X0_79 mX3_from rfl (by repeat (first | assumption | exact isBd.o (by assumption) | exact isHp.o (by assumption) | refine gs_eq ?_ | refine gs_ne (by omega) ?_ | exact is_of (by assumption) | refine gs_is ?_)) rfl (by decide) (Nat.le_of_ble_eq_true rfl) (by decide) (qI ?_)
  refine r_istore_n (ls1 := [_, _, _, _, _, _, _, _]) 6 dX0_make_5 rfl (by decide) rfl rfl ?_
  refine r_aload_n 7 dX0_make_6 rfl rfl rfl ?_
  refine r_iload_n 8 dX0_make_7 rfl rfl ?_
  refine r_callV0 11 dX0_make_8 rfl (tX3_to hh hq) l_X0_84 mX3_to rfl (by repeat (first | assumption | exact isBd.o (by assumption) | exact isHp.o (by assumption) | refine gs_eq ?_ | refine gs_ne (by omega) ?_ | exact is_of (by assumption) | refine gs_is ?_)) rfl (by decide) (Nat.le_of_ble_eq_true rfl) (by decide) (qI ?_)
  refine r_istore (ls1 := [_, _, _, _, _, _, _, _]) 13 dX0_make_11 rfl (by decide) rfl rfl ?_
  refine r_aload_n 14 dX0_make_13 rfl rfl rfl ?_
  refine r_iload_n 15 dX0_make_14 rfl rfl ?_
  refine r_callV0 18 dX0_make_15 rfl (tX3_taken hh hq) l_X0_87 mX3_taken rfl (by repeat (first | assumption | exact isBd.o (by assumption) | exact isHp.o (by assumption) | refine gs_eq ?_ | refine gs_ne (by omega) ?_ | exact is_of (by assumption) | refine gs_is ?_)) rfl (by decide) (Nat.le_of_ble_eq_true rfl) (by decide) (qI ?_)
  refine r_istore (ls1 := [_, _, _, _, _, _, _, _]) 20 dX0_make_18 rfl (by decide) rfl rfl ?_
  refine r_aload_n 21 dX0_make_20 rfl rfl rfl ?_
  refine r_iload_n 22 dX0_make_21 rfl rfl ?_
  refine r_callV0 25 dX0_make_22 rfl (tX0_pAt hb hfr) l_X0_57 mX0_pieceAt rfl (by repeat (first | assumption | exact isBd.o (by assumption) | exact isHp.o (by assumption) | refine gs_eq ?_ | refine gs_ne (by omega) ?_ | exact is_of (by assumption) | refine gs_is ?_)) rfl (by decide) (Nat.le_of_ble_eq_true rfl) (by decide) (qI ?_)
  refine r_istore (ls1 := [_, _, _, _, _, _, _, _]) 27 dX0_make_25 rfl (by decide) rfl rfl ?_
  refine r_iload 29 dX0_make_27 rfl rfl ?_
  refine r_iload_n 30 dX0_make_29 rfl rfl ?_
  refine r_aload_n 31 dX0_make_30 rfl rfl rfl ?_
  refine r_iload_n 32 dX0_make_31 rfl rfl ?_
  refine r_callV0 35 dX0_make_32 rfl (tX3_steps hh hq) l_X0_90 mX3_steps rfl (by repeat (first | assumption | exact isBd.o (by assumption) | exact isHp.o (by assumption) | refine gs_eq ?_ | refine gs_ne (by omega) ?_ | exact is_of (by assumption) | refine gs_is ?_)) rfl (by decide) (Nat.le_of_ble_eq_true rfl) (by decide) (qI ?_)
  refine r_callSN0 38 dX0_make_35 rfl (tX6_isCrowned) l_X0_93 mX6_isCrowned rfl (by decide) (Nat.le_of_ble_eq_true rfl) (by decide) (qI ?_)
  refine r_istore (ls1 := [_, _, _, _, _, _, _, _]) 40 dX0_make_38 rfl (by decide) rfl rfl ?_
  refine r_aload_n 41 dX0_make_40 rfl rfl rfl ?_
  refine r_iload_n 42 dX0_make_41 rfl rfl ?_
  refine r_bipush (v := (-6)) 44 dX0_make_42 rfl (by decide) ?_
  refine r_callV0 47 dX0_make_44 rfl (tX0_place hb) l_X0_37 mX0_place rfl (by repeat (first | assumption | exact isBd.o (by assumption) | exact isHp.o (by assumption) | refine gs_eq ?_ | refine gs_ne (by omega) ?_ | exact is_of (by assumption) | refine gs_is ?_)) rfl (by decide) (Nat.le_of_ble_eq_true rfl) (by decide) (qN fun w1 h1 => ?_)
  have g1 := h1.2
  refine r_aload_n 48 dX0_make_47 rfl rfl rfl ?_
  refine r_iload 50 dX0_make_48 rfl rfl ?_
  refine r_bipush (v := (-6)) 52 dX0_make_50 rfl (by decide) ?_
  refine r_callV0 55 dX0_make_52 rfl (tX0_place h1.2) l_X0_37 mX0_place rfl (by repeat (first | assumption | exact isBd.o (by assumption) | exact isHp.o (by assumption) | refine gs_eq ?_ | refine gs_ne (by omega) ?_ | exact is_of (by assumption) | refine gs_is ?_)) rfl (by decide) (Nat.le_of_ble_eq_true rfl) (by decide) (qN fun w2 h2 => ?_)
  have g2 := h2.2
  refine r_aload_n 56 dX0_make_55 rfl rfl rfl ?_
  refine r_iload 58 dX0_make_56 rfl rfl ?_
  refine r_iload 60 dX0_make_58 rfl rfl ?_
  refine r_if_eq 73 63 dX0_make_60 (by decide) rfl (fun q60 => ?_) (fun q60 => ?_)
  · refine r_iload 75 dX0_make_73 rfl rfl ?_
    refine r_top (mkP f mv q) (by first | (rw [mkP, if_pos (ne_f q60)]; done) | rw [mkP, if_neg (eq_f q60)]) ?_
    refine r_callV0 78 dX0_make_75 rfl (tX0_place h2.2) l_X0_37 mX0_place rfl (by repeat (first | assumption | exact isBd.o (by assumption) | exact isHp.o (by assumption) | refine gs_eq ?_ | refine gs_ne (by omega) ?_ | exact is_of (by assumption) | refine gs_is ?_)) rfl (by decide) (Nat.le_of_ble_eq_true rfl) (by decide) (qN fun w3 h3 => ?_)
    have g3 : isBd w3 b (mkF f mv q) (mkN f n mv q) mv jp := h3.2
    obtain ⟨gg, -, -⟩ := id g3
    refine r_aload_n 79 dX0_make_78 rfl rfl rfl ?_
    refine r_iload 81 dX0_make_79 rfl rfl ?_
    refine r_bipush (v := (-6)) 83 dX0_make_81 rfl (by decide) ?_
    refine r_icmp_eq 100 86 dX0_make_83 (by decide) rfl (fun q83 => ?_) (fun q83 => ?_)
    · refine r_bipush (v := (-6)) 102 dX0_make_100 rfl (by decide) ?_
      refine r_top (mkJ f mv q) (by first | (rw [mkJ, if_pos ⟨q83, ne_f q92⟩]; done) | (rw [mkJ, if_neg (fun z => z.1 q83)]; done) | (rw [mkJ, if_neg (fun z => eq_f q92 z.2)]; done)) ?_
      refine r_putf (fs1 := [_, _, _, _]) 105 dX0_make_102 rfl f_X0_22 (by repeat (first | assumption | exact isBd.o (by assumption) | exact isHp.o (by assumption) | refine gs_eq ?_ | refine gs_ne (by omega) ?_ | exact is_of (by assumption) | refine gs_is ?_)) rfl (by simp only [List.length_cons, List.length_nil]; omega) rfl ?_
      refine r_aload_n 106 dX0_make_105 rfl rfl rfl ?_
      refine r_getf 109 dX0_make_106 rfl f_X0_22.r (by repeat (first | assumption | exact isBd.o (by assumption) | exact isHp.o (by assumption) | refine gs_eq ?_ | refine gs_ne (by omega) ?_ | exact is_of (by assumption) | refine gs_is ?_)) rfl ?_
      refine r_bipush (v := (-6)) 111 dX0_make_109 rfl (by decide) ?_
      refine r_icmp_ne 124 114 dX0_make_111 (by decide) rfl (fun q111 => ?_) (fun q111 => ?_)
      · refine r_vret dX0_make_124 rfl (by decide) (by decide) ?_
        have hJ : toBd w b (mkF f mv q) (mkN f n mv q) mv jp w3 := (h1.tr h2).tr h3
        first | exact ⟨rfl, by rw [mkM, if_neg q111]; exact hJ.tr g3.setO⟩ | exact ⟨rfl, by rw [mkM, if_pos q111]; exact (hJ.tr g3.setO).tr g3.setO.2.setO⟩
      · refine r_aload_n 115 dX0_make_114 rfl rfl rfl ?_
        refine r_iconst (v := 1) 116 dX0_make_115 rfl (by decide) ?_
        refine r_aload_n 117 dX0_make_116 rfl rfl rfl ?_
        refine r_getf 120 dX0_make_117 rfl f_X0_18.r (by repeat (first | assumption | exact isBd.o (by assumption) | exact isHp.o (by assumption) | refine gs_eq ?_ | refine gs_ne (by omega) ?_ | exact is_of (by assumption) | refine gs_is ?_)) rfl ?_
        refine r_isub 121 dX0_make_120 rfl ?_
        refine r_putf (fs1 := [_, _, _, _]) 124 dX0_make_121 rfl f_X0_18 (by repeat (first | assumption | exact isBd.o (by assumption) | exact isHp.o (by assumption) | refine gs_eq ?_ | refine gs_ne (by omega) ?_ | exact is_of (by assumption) | refine gs_is ?_)) rfl (by simp only [List.length_cons, List.length_nil]; omega) rfl ?_
        refine r_vret dX0_make_124 rfl (by decide) (by decide) ?_
        have hJ : toBd w b (mkF f mv q) (mkN f n mv q) mv jp w3 := (h1.tr h2).tr h3
        first | exact ⟨rfl, by rw [mkM, if_neg q111]; exact hJ.tr g3.setO⟩ | exact ⟨rfl, by rw [mkM, if_pos q111]; exact (hJ.tr g3.setO).tr g3.setO.2.setO⟩
    · refine r_aload_n 87 dX0_make_86 rfl rfl rfl ?_
      refine r_iload 89 dX0_make_87 rfl rfl ?_
      refine r_callV0 92 dX0_make_89 rfl (tX0_canJump h3.2 hto) l_X0_97 mX0_canJump rfl (by repeat (first | assumption | exact isBd.o (by assumption) | exact isHp.o (by assumption) | refine gs_eq ?_ | refine gs_ne (by omega) ?_ | exact is_of (by assumption) | refine gs_is ?_)) rfl (by decide) (Nat.le_of_ble_eq_true rfl) (by decide) (qI ?_)
      refine r_if_eq 100 95 dX0_make_92 (by decide) rfl (fun q92 => ?_) (fun q92 => ?_)
      · refine r_bipush (v := (-6)) 102 dX0_make_100 rfl (by decide) ?_
        refine r_top (mkJ f mv q) (by first | (rw [mkJ, if_pos ⟨q83, ne_f q92⟩]; done) | (rw [mkJ, if_neg (fun z => z.1 q83)]; done) | (rw [mkJ, if_neg (fun z => eq_f q92 z.2)]; done)) ?_
        refine r_putf (fs1 := [_, _, _, _]) 105 dX0_make_102 rfl f_X0_22 (by repeat (first | assumption | exact isBd.o (by assumption) | exact isHp.o (by assumption) | refine gs_eq ?_ | refine gs_ne (by omega) ?_ | exact is_of (by assumption) | refine gs_is ?_)) rfl (by simp only [List.length_cons, List.length_nil]; omega) rfl ?_
        refine r_aload_n 106 dX0_make_105 rfl rfl rfl ?_
        refine r_getf 109 dX0_make_106 rfl f_X0_22.r (by repeat (first | assumption | exact isBd.o (by assumption) | exact isHp.o (by assumption) | refine gs_eq ?_ | refine gs_ne (by omega) ?_ | exact is_of (by assumption) | refine gs_is ?_)) rfl ?_
        refine r_bipush (v := (-6)) 111 dX0_make_109 rfl (by decide) ?_
        refine r_icmp_ne 124 114 dX0_make_111 (by decide) rfl (fun q111 => ?_) (fun q111 => ?_)
        · refine r_vret dX0_make_124 rfl (by decide) (by decide) ?_
          have hJ : toBd w b (mkF f mv q) (mkN f n mv q) mv jp w3 := (h1.tr h2).tr h3
          first | exact ⟨rfl, by rw [mkM, if_neg q111]; exact hJ.tr g3.setO⟩ | exact ⟨rfl, by rw [mkM, if_pos q111]; exact (hJ.tr g3.setO).tr g3.setO.2.setO⟩
        · refine r_aload_n 115 dX0_make_114 rfl rfl rfl ?_
          refine r_iconst (v := 1) 116 dX0_make_115 rfl (by decide) ?_
          refine r_aload_n 117 dX0_make_116 rfl rfl rfl ?_
          refine r_getf 120 dX0_make_117 rfl f_X0_18.r (by repeat (first | assumption | exact isBd.o (by assumption) | exact isHp.o (by assumption) | refine gs_eq ?_ | refine gs_ne (by omega) ?_ | exact is_of (by assumption) | refine gs_is ?_)) rfl ?_
          refine r_isub 121 dX0_make_120 rfl ?_
          refine r_putf (fs1 := [_, _, _, _]) 124 dX0_make_121 rfl f_X0_18 (by repeat (first | assumption | exact isBd.o (by assumption) | exact isHp.o (by assumption) | refine gs_eq ?_ | refine gs_ne (by omega) ?_ | exact is_of (by assumption) | refine gs_is ?_)) rfl (by simp only [List.length_cons, List.length_nil]; omega) rfl ?_
          refine r_vret dX0_make_124 rfl (by decide) (by decide) ?_
          have hJ : toBd w b (mkF f mv q) (mkN f n mv q) mv jp w3 := (h1.tr h2).tr h3
          first | exact ⟨rfl, by rw [mkM, if_neg q111]; exact hJ.tr g3.setO⟩ | exact ⟨rfl, by rw [mkM, if_pos q111]; exact (hJ.tr g3.setO).tr g3.setO.2.setO⟩
      · refine r_iload 97 dX0_make_95 rfl rfl ?_
        refine r_goto 102 dX0_make_97 (by decide) ?_
        refine r_top (mkJ f mv q) (by first | (rw [mkJ, if_pos ⟨q83, ne_f q92⟩]; done) | (rw [mkJ, if_neg (fun z => z.1 q83)]; done) | (rw [mkJ, if_neg (fun z => eq_f q92 z.2)]; done)) ?_
        refine r_putf (fs1 := [_, _, _, _]) 105 dX0_make_102 rfl f_X0_22 (by repeat (first | assumption | exact isBd.o (by assumption) | exact isHp.o (by assumption) | refine gs_eq ?_ | refine gs_ne (by omega) ?_ | exact is_of (by assumption) | refine gs_is ?_)) rfl (by simp only [List.length_cons, List.length_nil]; omega) rfl ?_
        refine r_aload_n 106 dX0_make_105 rfl rfl rfl ?_
        refine r_getf 109 dX0_make_106 rfl f_X0_22.r (by repeat (first | assumption | exact isBd.o (by assumption) | exact isHp.o (by assumption) | refine gs_eq ?_ | refine gs_ne (by omega) ?_ | exact is_of (by assumption) | refine gs_is ?_)) rfl ?_
        refine r_bipush (v := (-6)) 111 dX0_make_109 rfl (by decide) ?_
        refine r_icmp_ne 124 114 dX0_make_111 (by decide) rfl (fun q111 => ?_) (fun q111 => ?_)
        · refine r_vret dX0_make_124 rfl (by decide) (by decide) ?_
          have hJ : toBd w b (mkF f mv q) (mkN f n mv q) mv jp w3 := (h1.tr h2).tr h3
          first | exact ⟨rfl, by rw [mkM, if_neg q111]; exact hJ.tr g3.setO⟩ | exact ⟨rfl, by rw [mkM, if_pos q111]; exact (hJ.tr g3.setO).tr g3.setO.2.setO⟩
        · refine r_aload_n 115 dX0_make_114 rfl rfl rfl ?_
          refine r_iconst (v := 1) 116 dX0_make_115 rfl (by decide) ?_
          refine r_aload_n 117 dX0_make_116 rfl rfl rfl ?_
          refine r_getf 120 dX0_make_117 rfl f_X0_18.r (by repeat (first | assumption | exact isBd.o (by assumption) | exact isHp.o (by assumption) | refine gs_eq ?_ | refine gs_ne (by omega) ?_ | exact is_of (by assumption) | refine gs_is ?_)) rfl ?_
          refine r_isub 121 dX0_make_120 rfl ?_
          refine r_putf (fs1 := [_, _, _, _]) 124 dX0_make_121 rfl f_X0_18 (by repeat (first | assumption | exact isBd.o (by assumption) | exact isHp.o (by assumption) | refine gs_eq ?_ | refine gs_ne (by omega) ?_ | exact is_of (by assumption) | refine gs_is ?_)) rfl (by simp only [List.length_cons, List.length_nil]; omega) rfl ?_
          refine r_vret dX0_make_124 rfl (by decide) (by decide) ?_
          have hJ : toBd w b (mkF f mv q) (mkN f n mv q) mv jp w3 := (h1.tr h2).tr h3
          first | exact ⟨rfl, by rw [mkM, if_neg q111]; exact hJ.tr g3.setO⟩ | exact ⟨rfl, by rw [mkM, if_pos q111]; exact (hJ.tr g3.setO).tr g3.setO.2.setO⟩
  · refine r_aload_n 64 dX0_make_63 rfl rfl rfl ?_
    refine r_getf 67 dX0_make_64 rfl f_X0_18.r (by repeat (first | assumption | exact isBd.o (by assumption) | exact isHp.o (by assumption) | refine gs_eq ?_ | refine gs_ne (by omega) ?_ | exact is_of (by assumption) | refine gs_is ?_)) rfl ?_
    refine r_callSN0 70 dX0_make_67 rfl (tX6_kingOf) l_X0_48 mX6_kingOf rfl (by decide) (Nat.le_of_ble_eq_true rfl) (by decide) (qI ?_)
    refine r_goto 75 dX0_make_70 (by decide) ?_
    refine r_top (mkP f mv q) (by first | (rw [mkP, if_pos (ne_f q60)]; done) | rw [mkP, if_neg (eq_f q60)]) ?_
    refine r_callV0 78 dX0_make_75 rfl (tX0_place h2.2) l_X0_37 mX0_place rfl (by repeat (first | assumption | exact isBd.o (by assumption) | exact isHp.o (by assumption) | refine gs_eq ?_ | refine gs_ne (by omega) ?_ | exact is_of (by assumption) | refine gs_is ?_)) rfl (by decide) (Nat.le_of_ble_eq_true rfl) (by decide) (qN fun w3 h3 => ?_)
    have g3 : isBd w3 b (mkF f mv q) (mkN f n mv q) mv jp := h3.2
    obtain ⟨gg, -, -⟩ := id g3
    refine r_aload_n 79 dX0_make_78 rfl rfl rfl ?_
    refine r_iload 81 dX0_make_79 rfl rfl ?_
    refine r_bipush (v := (-6)) 83 dX0_make_81 rfl (by decide) ?_
    refine r_icmp_eq 100 86 dX0_make_83 (by decide) rfl (fun q83 => ?_) (fun q83 => ?_)
    · refine r_bipush (v := (-6)) 102 dX0_make_100 rfl (by decide) ?_
      refine r_top (mkJ f mv q) (by first | (rw [mkJ, if_pos ⟨q83, ne_f q92⟩]; done) | (rw [mkJ, if_neg (fun z => z.1 q83)]; done) | (rw [mkJ, if_neg (fun z => eq_f q92 z.2)]; done)) ?_
      refine r_putf (fs1 := [_, _, _, _]) 105 dX0_make_102 rfl f_X0_22 (by repeat (first | assumption | exact isBd.o (by assumption) | exact isHp.o (by assumption) | refine gs_eq ?_ | refine gs_ne (by omega) ?_ | exact is_of (by assumption) | refine gs_is ?_)) rfl (by simp only [List.length_cons, List.length_nil]; omega) rfl ?_
      refine r_aload_n 106 dX0_make_105 rfl rfl rfl ?_
      refine r_getf 109 dX0_make_106 rfl f_X0_22.r (by repeat (first | assumption | exact isBd.o (by assumption) | exact isHp.o (by assumption) | refine gs_eq ?_ | refine gs_ne (by omega) ?_ | exact is_of (by assumption) | refine gs_is ?_)) rfl ?_
      refine r_bipush (v := (-6)) 111 dX0_make_109 rfl (by decide) ?_
      refine r_icmp_ne 124 114 dX0_make_111 (by decide) rfl (fun q111 => ?_) (fun q111 => ?_)
      · refine r_vret dX0_make_124 rfl (by decide) (by decide) ?_
        have hJ : toBd w b (mkF f mv q) (mkN f n mv q) mv jp w3 := (h1.tr h2).tr h3
        first | exact ⟨rfl, by rw [mkM, if_neg q111]; exact hJ.tr g3.setO⟩ | exact ⟨rfl, by rw [mkM, if_pos q111]; exact (hJ.tr g3.setO).tr g3.setO.2.setO⟩
      · refine r_aload_n 115 dX0_make_114 rfl rfl rfl ?_
        refine r_iconst (v := 1) 116 dX0_make_115 rfl (by decide) ?_
        refine r_aload_n 117 dX0_make_116 rfl rfl rfl ?_
        refine r_getf 120 dX0_make_117 rfl f_X0_18.r (by repeat (first | assumption | exact isBd.o (by assumption) | exact isHp.o (by assumption) | refine gs_eq ?_ | refine gs_ne (by omega) ?_ | exact is_of (by assumption) | refine gs_is ?_)) rfl ?_
        refine r_isub 121 dX0_make_120 rfl ?_
        refine r_putf (fs1 := [_, _, _, _]) 124 dX0_make_121 rfl f_X0_18 (by repeat (first | assumption | exact isBd.o (by assumption) | exact isHp.o (by assumption) | refine gs_eq ?_ | refine gs_ne (by omega) ?_ | exact is_of (by assumption) | refine gs_is ?_)) rfl (by simp only [List.length_cons, List.length_nil]; omega) rfl ?_
        refine r_vret dX0_make_124 rfl (by decide) (by decide) ?_
        have hJ : toBd w b (mkF f mv q) (mkN f n mv q) mv jp w3 := (h1.tr h2).tr h3
        first | exact ⟨rfl, by rw [mkM, if_neg q111]; exact hJ.tr g3.setO⟩ | exact ⟨rfl, by rw [mkM, if_pos q111]; exact (hJ.tr g3.setO).tr g3.setO.2.setO⟩
    · refine r_aload_n 87 dX0_make_86 rfl rfl rfl ?_
      refine r_iload 89 dX0_make_87 rfl rfl ?_
      refine r_callV0 92 dX0_make_89 rfl (tX0_canJump h3.2 hto) l_X0_97 mX0_canJump rfl (by repeat (first | assumption | exact isBd.o (by assumption) | exact isHp.o (by assumption) | refine gs_eq ?_ | refine gs_ne (by omega) ?_ | exact is_of (by assumption) | refine gs_is ?_)) rfl (by decide) (Nat.le_of_ble_eq_true rfl) (by decide) (qI ?_)
      refine r_if_eq 100 95 dX0_make_92 (by decide) rfl (fun q92 => ?_) (fun q92 => ?_)
      · refine r_bipush (v := (-6)) 102 dX0_make_100 rfl (by decide) ?_
        refine r_top (mkJ f mv q) (by first | (rw [mkJ, if_pos ⟨q83, ne_f q92⟩]; done) | (rw [mkJ, if_neg (fun z => z.1 q83)]; done) | (rw [mkJ, if_neg (fun z => eq_f q92 z.2)]; done)) ?_
        refine r_putf (fs1 := [_, _, _, _]) 105 dX0_make_102 rfl f_X0_22 (by repeat (first | assumption | exact isBd.o (by assumption) | exact isHp.o (by assumption) | refine gs_eq ?_ | refine gs_ne (by omega) ?_ | exact is_of (by assumption) | refine gs_is ?_)) rfl (by simp only [List.length_cons, List.length_nil]; omega) rfl ?_
        refine r_aload_n 106 dX0_make_105 rfl rfl rfl ?_
        refine r_getf 109 dX0_make_106 rfl f_X0_22.r (by repeat (first | assumption | exact isBd.o (by assumption) | exact isHp.o (by assumption) | refine gs_eq ?_ | refine gs_ne (by omega) ?_ | exact is_of (by assumption) | refine gs_is ?_)) rfl ?_
        refine r_bipush (v := (-6)) 111 dX0_make_109 rfl (by decide) ?_
        refine r_icmp_ne 124 114 dX0_make_111 (by decide) rfl (fun q111 => ?_) (fun q111 => ?_)
        · refine r_vret dX0_make_124 rfl (by decide) (by decide) ?_
          have hJ : toBd w b (mkF f mv q) (mkN f n mv q) mv jp w3 := (h1.tr h2).tr h3
          first | exact ⟨rfl, by rw [mkM, if_neg q111]; exact hJ.tr g3.setO⟩ | exact ⟨rfl, by rw [mkM, if_pos q111]; exact (hJ.tr g3.setO).tr g3.setO.2.setO⟩
        · refine r_aload_n 115 dX0_make_114 rfl rfl rfl ?_
          refine r_iconst (v := 1) 116 dX0_make_115 rfl (by decide) ?_
          refine r_aload_n 117 dX0_make_116 rfl rfl rfl ?_
          refine r_getf 120 dX0_make_117 rfl f_X0_18.r (by repeat (first | assumption | exact isBd.o (by assumption) | exact isHp.o (by assumption) | refine gs_eq ?_ | refine gs_ne (by omega) ?_ | exact is_of (by assumption) | refine gs_is ?_)) rfl ?_
          refine r_isub 121 dX0_make_120 rfl ?_
          refine r_putf (fs1 := [_, _, _, _]) 124 dX0_make_121 rfl f_X0_18 (by repeat (first | assumption | exact isBd.o (by assumption) | exact isHp.o (by assumption) | refine gs_eq ?_ | refine gs_ne (by omega) ?_ | exact is_of (by assumption) | refine gs_is ?_)) rfl (by simp only [List.length_cons, List.length_nil]; omega) rfl ?_
          refine r_vret dX0_make_124 rfl (by decide) (by decide) ?_
          have hJ : toBd w b (mkF f mv q) (mkN f n mv q) mv jp w3 := (h1.tr h2).tr h3
          first | exact ⟨rfl, by rw [mkM, if_neg q111]; exact hJ.tr g3.setO⟩ | exact ⟨rfl, by rw [mkM, if_pos q111]; exact (hJ.tr g3.setO).tr g3.setO.2.setO⟩
      · refine r_iload 97 dX0_make_95 rfl rfl ?_
        refine r_goto 102 dX0_make_97 (by decide) ?_
        refine r_top (mkJ f mv q) (by first | (rw [mkJ, if_pos ⟨q83, ne_f q92⟩]; done) | (rw [mkJ, if_neg (fun z => z.1 q83)]; done) | (rw [mkJ, if_neg (fun z => eq_f q92 z.2)]; done)) ?_
        refine r_putf (fs1 := [_, _, _, _]) 105 dX0_make_102 rfl f_X0_22 (by repeat (first | assumption | exact isBd.o (by assumption) | exact isHp.o (by assumption) | refine gs_eq ?_ | refine gs_ne (by omega) ?_ | exact is_of (by assumption) | refine gs_is ?_)) rfl (by simp only [List.length_cons, List.length_nil]; omega) rfl ?_
        refine r_aload_n 106 dX0_make_105 rfl rfl rfl ?_
        refine r_getf 109 dX0_make_106 rfl f_X0_22.r (by repeat (first | assumption | exact isBd.o (by assumption) | exact isHp.o (by assumption) | refine gs_eq ?_ | refine gs_ne (by omega) ?_ | exact is_of (by assumption) | refine gs_is ?_)) rfl ?_
        refine r_bipush (v := (-6)) 111 dX0_make_109 rfl (by decide) ?_
        refine r_icmp_ne 124 114 dX0_make_111 (by decide) rfl (fun q111 => ?_) (fun q111 => ?_)
        · refine r_vret dX0_make_124 rfl (by decide) (by decide) ?_
          have hJ : toBd w b (mkF f mv q) (mkN f n mv q) mv jp w3 := (h1.tr h2).tr h3
          first | exact ⟨rfl, by rw [mkM, if_neg q111]; exact hJ.tr g3.setO⟩ | exact ⟨rfl, by rw [mkM, if_pos q111]; exact (hJ.tr g3.setO).tr g3.setO.2.setO⟩
        · refine r_aload_n 115 dX0_make_114 rfl rfl rfl ?_
          refine r_iconst (v := 1) 116 dX0_make_115 rfl (by decide) ?_
          refine r_aload_n 117 dX0_make_116 rfl rfl rfl ?_
          refine r_getf 120 dX0_make_117 rfl f_X0_18.r (by repeat (first | assumption | exact isBd.o (by assumption) | exact isHp.o (by assumption) | refine gs_eq ?_ | refine gs_ne (by omega) ?_ | exact is_of (by assumption) | refine gs_is ?_)) rfl ?_
          refine r_isub 121 dX0_make_120 rfl ?_
          refine r_putf (fs1 := [_, _, _, _]) 124 dX0_make_121 rfl f_X0_18 (by repeat (first | assumption | exact isBd.o (by assumption) | exact isHp.o (by assumption) | refine gs_eq ?_ | refine gs_ne (by omega) ?_ | exact is_of (by assumption) | refine gs_is ?_)) rfl (by simp only [List.length_cons, List.length_nil]; omega) rfl ?_
          refine r_vret dX0_make_124 rfl (by decide) (by decide) ?_
          have hJ : toBd w b (mkF f mv q) (mkN f n mv q) mv jp w3 := (h1.tr h2).tr h3
          first | exact ⟨rfl, by rw [mkM, if_neg q111]; exact hJ.tr g3.setO⟩ | exact ⟨rfl, by rw [mkM, if_pos q111]; exact (hJ.tr g3.setO).tr g3.setO.2.setO⟩

def th (f : Nat → Int32) : Nat → Nat → Int64 → Int64
  | 0, _, b => b
  | n + 1, s, b => th f n (s + 1) ((b <<< ((3 : Int32).toInt64 &&& 63)) ||| (if f s = -6 then 4 else f s).toInt64)
def thO (f : Nat → Int32) (mv jp : Int32) (p : Nat) : Int64 := th f 16 (p * 16) (if p = 0 then mv.toInt64 else if p = 1 then (jp - (-6)).toInt64 else 0)
theorem nI_one {p : Nat} (hp : p < 3) (h : nI p = 1) : p = 1 := (nI_eq (by omega) (by decide : 1 < 2 ^ 31)).mp h
set_option maxRecDepth 100000 in
theorem tX0_third {Γ : CT} {w : PW} {b p : Nat} {f n : Nat → Int32} {mv jp : Int32} (hb : isBd w b f n mv jp) (hp3 : p < 3) : Cl Γ yX0_third XX0_third 1 0 0 [.ref b, .int (nI p)] w (rJ (thO f mv jp p) w) := by
  have loop : ∀ (m i : Nat) (z : Int64) (x6 : Option Value), i + m = 16 → nl x6 = true → th f m (p * 16 + i) z = thO f mv jp p → Rn Γ XX0_third (rmO 1 0 0) none (FinM (rJ (thO f mv jp p) w) 0 0) 0 0 w 38 [some (.ref b), some (.int (nI p)), some (.int (nI (p * 16))), some (.long z), none, some (.int (nI (p * 16 + i))), x6] [] := by
    intro m
    induction m with
    | zero =>
      intro i z x6 hi e6 hz
      refine r_iload 40 dX0_third_38 rfl rfl ?_
      refine r_iload_n 41 dX0_third_40 rfl rfl ?_
      refine r_bipush (v := nI 16) 43 dX0_third_41 rfl (by decide) ?_
      refine r_iadd 44 dX0_third_43 rfl ?_
      rw [nI_add]
      refine r_icmp_ge 80 47 dX0_third_44 (by decide) rfl (fun q44 => ?_) (fun q44 => absurd q44 (fun z => z (nI_le (by omega) (by omega))))
      refine r_lload_n 81 dX0_third_80 rfl rfl ?_
      refine r_lret dX0_third_81 rfl (by decide) (by decide) ?_
      exact ⟨by rw [← hz]; rfl, rfl⟩
    | succ m ih =>
      intro i z x6 hi e6 hz
      refine r_iload 40 dX0_third_38 rfl rfl ?_
      refine r_iload_n 41 dX0_third_40 rfl rfl ?_
      refine r_bipush (v := nI 16) 43 dX0_third_41 rfl (by decide) ?_
      refine r_iadd 44 dX0_third_43 rfl ?_
      rw [nI_add]
      refine r_icmp_ge 80 47 dX0_third_44 (by decide) rfl (fun q44 => absurd q44 (nI_ge (by omega) (by omega))) (fun q44 => ?_)
      refine r_aload_n 48 dX0_third_47 rfl rfl rfl ?_
      refine r_iload 50 dX0_third_48 rfl rfl ?_
      refine r_callV0 53 dX0_third_50 rfl (tX0_pAt hb (by omega)) l_X0_57 mX0_pieceAt rfl (by repeat (first | assumption | exact isBd.o (by assumption) | exact isHp.o (by assumption) | refine gs_eq ?_ | refine gs_ne (by omega) ?_ | exact is_of (by assumption) | refine gs_is ?_)) rfl (by decide) (Nat.le_of_ble_eq_true rfl) (by decide) (qI ?_)
      refine r_istore (ls1 := [_, _, _, _, _, _, _]) 55 dX0_third_53 rfl (by decide) rfl rfl ?_
      refine r_lload_n 56 dX0_third_55 rfl rfl ?_
      refine r_iconst (v := 3) 57 dX0_third_56 rfl (by decide) ?_
      refine r_lshl 58 dX0_third_57 rfl rfl ?_
      refine r_iload 60 dX0_third_58 rfl rfl ?_
      refine r_bipush (v := (-6)) 62 dX0_third_60 rfl (by decide) ?_
      refine r_icmp_ne 69 65 dX0_third_62 (by decide) rfl (fun q62 => ?_) (fun q62 => ?_)
      · refine r_iload 71 dX0_third_69 rfl rfl ?_
        refine r_top (if f (p * 16 + i) = -6 then 4 else f (p * 16 + i)) (by first | (rw [if_pos q62]; done) | rw [if_neg q62]) ?_
        refine r_i2l 72 dX0_third_71 rfl rfl ?_
        refine r_lor 73 dX0_third_72 rfl ?_
        refine r_lstore_n (ls1 := [_, _, _, _, _, _, _]) 74 dX0_third_73 rfl (by decide) rfl rfl ?_
        refine r_iinc (ls1 := [_, _, _, _, _, _, _]) 77 dX0_third_74 rfl (by decide) rfl rfl (nI_1 _) rfl ?_
        refine r_goto 38 dX0_third_77 (by decide) ?_
        exact ih (i + 1) _ _ (by omega) rfl (by rw [← hz, th]; rfl)
      · refine r_iconst (v := 4) 66 dX0_third_65 rfl (by decide) ?_
        refine r_goto 71 dX0_third_66 (by decide) ?_
        refine r_top (if f (p * 16 + i) = -6 then 4 else f (p * 16 + i)) (by first | (rw [if_pos q62]; done) | rw [if_neg q62]) ?_
        refine r_i2l 72 dX0_third_71 rfl rfl ?_
        refine r_lor 73 dX0_third_72 rfl ?_
        refine r_lstore_n (ls1 := [_, _, _, _, _, _, _]) 74 dX0_third_73 rfl (by decide) rfl rfl ?_
        refine r_iinc (ls1 := [_, _, _, _, _, _, _]) 77 dX0_third_74 rfl (by decide) rfl rfl (nI_1 _) rfl ?_
        refine r_goto 38 dX0_third_77 (by decide) ?_
        exact ih (i + 1) _ _ (by omega) rfl (by rw [← hz, th]; rfl)
  refine Cl.of (ls := [some (.ref b), some (.int (nI p)), none, none, none, none, none]) rfl (by decide +kernel) (fun h => by cases h) (Nat.le_of_ble_eq_true rfl) rfl ?_
  refine r_iload_n 1 dX0_third_0 rfl rfl ?_
  refine r_bipush (v := nI 16) 3 dX0_third_1 rfl (by decide) ?_
  refine r_imul 4 dX0_third_3 rfl ?_
  rw [pk_mul]
  refine r_istore_n (ls1 := [_, _, _, _, _, _, _]) 5 dX0_third_4 rfl (by decide) rfl rfl ?_
  refine r_iload_n 6 dX0_third_5 rfl rfl ?_
  refine r_if_ne 17 9 dX0_third_6 (by decide) rfl (fun q6 => ?_) (fun q6 => ?_)
  · refine r_iload_n 18 dX0_third_17 rfl rfl ?_
    refine r_iconst (v := 1) 19 dX0_third_18 rfl (by decide) ?_
    refine r_icmp_ne 33 22 dX0_third_19 (by decide) rfl (fun q19 => ?_) (fun q19 => ?_)
    · refine r_lconst (v := 0) 34 dX0_third_33 rfl (by decide) ?_
      refine r_lstore_n (ls1 := [_, _, _, _, _, _, _]) 35 dX0_third_34 rfl (by decide) rfl rfl ?_
      refine r_iload_n 36 dX0_third_35 rfl rfl ?_
      refine r_istore (ls1 := [_, _, _, _, _, _, _]) 38 dX0_third_36 rfl (by decide) rfl rfl ?_
      first
        | exact loop 16 0 _ _ rfl rfl (by rw [thO, if_pos (nI_z (by omega) q6)]; rfl)
        | exact loop 16 0 _ _ rfl rfl (by rw [thO, if_neg (fun z => q6 (by rw [z]; rfl)), if_pos (nI_one hp3 q19)]; rfl)
        | exact loop 16 0 _ _ rfl rfl (by rw [thO, if_neg (fun z => q6 (by rw [z]; rfl)), if_neg (fun z => q19 (by rw [z]; rfl))]; rfl)
    · refine r_aload_n 23 dX0_third_22 rfl rfl rfl ?_
      refine r_getf 26 dX0_third_23 rfl f_X0_22.r (by repeat (first | assumption | exact isBd.o (by assumption) | exact isHp.o (by assumption) | refine gs_eq ?_ | refine gs_ne (by omega) ?_ | exact is_of (by assumption) | refine gs_is ?_)) rfl ?_
      refine r_bipush (v := (-6)) 28 dX0_third_26 rfl (by decide) ?_
      refine r_isub 29 dX0_third_28 rfl ?_
      refine r_i2l 30 dX0_third_29 rfl rfl ?_
      refine r_goto 34 dX0_third_30 (by decide) ?_
      refine r_lstore_n (ls1 := [_, _, _, _, _, _, _]) 35 dX0_third_34 rfl (by decide) rfl rfl ?_
      refine r_iload_n 36 dX0_third_35 rfl rfl ?_
      refine r_istore (ls1 := [_, _, _, _, _, _, _]) 38 dX0_third_36 rfl (by decide) rfl rfl ?_
      first
        | exact loop 16 0 _ _ rfl rfl (by rw [thO, if_pos (nI_z (by omega) q6)]; rfl)
        | exact loop 16 0 _ _ rfl rfl (by rw [thO, if_neg (fun z => q6 (by rw [z]; rfl)), if_pos (nI_one hp3 q19)]; rfl)
        | exact loop 16 0 _ _ rfl rfl (by rw [thO, if_neg (fun z => q6 (by rw [z]; rfl)), if_neg (fun z => q19 (by rw [z]; rfl))]; rfl)
  · refine r_aload_n 10 dX0_third_9 rfl rfl rfl ?_
    refine r_getf 13 dX0_third_10 rfl f_X0_18.r (by repeat (first | assumption | exact isBd.o (by assumption) | exact isHp.o (by assumption) | refine gs_eq ?_ | refine gs_ne (by omega) ?_ | exact is_of (by assumption) | refine gs_is ?_)) rfl ?_
    refine r_i2l 14 dX0_third_13 rfl rfl ?_
    refine r_goto 34 dX0_third_14 (by decide) ?_
    refine r_lstore_n (ls1 := [_, _, _, _, _, _, _]) 35 dX0_third_34 rfl (by decide) rfl rfl ?_
    refine r_iload_n 36 dX0_third_35 rfl rfl ?_
    refine r_istore (ls1 := [_, _, _, _, _, _, _]) 38 dX0_third_36 rfl (by decide) rfl rfl ?_
    first
      | exact loop 16 0 _ _ rfl rfl (by rw [thO, if_pos (nI_z (by omega) q6)]; rfl)
      | exact loop 16 0 _ _ rfl rfl (by rw [thO, if_neg (fun z => q6 (by rw [z]; rfl)), if_pos (nI_one hp3 q19)]; rfl)
      | exact loop 16 0 _ _ rfl rfl (by rw [thO, if_neg (fun z => q6 (by rw [z]; rfl)), if_neg (fun z => q19 (by rw [z]; rfl))]; rfl)

set_option maxRecDepth 100000 in
theorem tX5_tryHop {Γ : CT} {w : PW} {y y1 pb ph nb nh : Nat} {nv : Value} {f n f2 n2 : Nat → Int32} {mv jp mv2 jp2 : Int32} {l : List HP} {j : Nat} {q : HP} (hy : w[y]? = some (oB 5 [.ref pb, .ref ph, .ref y1])) (hy1 : w[y1]? = some (oB 5 [.ref nb, .ref nh, nv])) (hb : isBd w pb f n mv jp) (hh : isHp w ph l) (hn : isBd w nb f2 n2 mv2 jp2) (hq : l[j]? = some q) (hto : q.2.1 < 48) (hfr : q.1 < 48) (ha1 : pb + 3 ≤ nb ∨ nb + 3 ≤ pb) (ha2 : apH nb ph) (hz1 : y < nb ∨ nb + 3 ≤ y) (hz2 : y1 < nb ∨ nb + 3 ≤ y1) : Cl Γ yX5_tryHop XX5_tryHop 5 0 0 [.ref y, .int (nI j)] w (rN (toBd w nb (mkF f mv q) (mkN f n mv q) (mkM f mv q) (mkJ f mv q))) := by
  refine Cl.of (ls := [some (.ref y), some (.int (nI j))]) rfl (by decide +kernel) (fun h => by cases h) (Nat.le_of_ble_eq_true rfl) rfl ?_
  refine r_aload_n 1 dX5_tryHop_0 rfl rfl rfl ?_
  refine r_getf 4 dX5_tryHop_1 rfl f_X5_23.r (by repeat (first | assumption | exact isBd.o (by assumption) | exact isHp.o (by assumption) | refine gs_eq ?_ | refine gs_ne (by omega) ?_ | exact is_of (by assumption) | refine gs_is ?_)) rfl ?_
  refine r_ifnull 7 dX5_tryHop_4 rfl ?_
  refine r_aload_n 8 dX5_tryHop_7 rfl rfl rfl ?_
  refine r_getf 11 dX5_tryHop_8 rfl f_X5_19.r (by repeat (first | assumption | exact isBd.o (by assumption) | exact isHp.o (by assumption) | refine gs_eq ?_ | refine gs_ne (by omega) ?_ | exact is_of (by assumption) | refine gs_is ?_)) rfl ?_
  refine r_iload_n 12 dX5_tryHop_11 rfl rfl ?_
  refine r_callV0 15 dX5_tryHop_12 rfl (tX3_has hh) l_X5_27 mX3_has rfl (by repeat (first | assumption | exact isBd.o (by assumption) | exact isHp.o (by assumption) | refine gs_eq ?_ | refine gs_ne (by omega) ?_ | exact is_of (by assumption) | refine gs_is ?_)) rfl (by decide) (Nat.le_of_ble_eq_true rfl) (by decide) (qI ?_)
  refine r_if_ne 19 18 dX5_tryHop_15 (by decide) rfl (fun q15 => ?_) (fun q15 => absurd q15 (fun z => absurd (hasO_t (l := l) (j := j) (by have := hh.1; omega) (List.getElem?_eq_some_iff.mp hq).1) (by rw [bI_0.mp z]; decide)))
  refine r_aload_n 20 dX5_tryHop_19 rfl rfl rfl ?_
  refine r_getf 23 dX5_tryHop_20 rfl f_X5_23.r (by repeat (first | assumption | exact isBd.o (by assumption) | exact isHp.o (by assumption) | refine gs_eq ?_ | refine gs_ne (by omega) ?_ | exact is_of (by assumption) | refine gs_is ?_)) rfl ?_
  refine r_getf 26 dX5_tryHop_23 rfl f_X5_10.r (by repeat (first | assumption | exact isBd.o (by assumption) | exact isHp.o (by assumption) | refine gs_eq ?_ | refine gs_ne (by omega) ?_ | exact is_of (by assumption) | refine gs_is ?_)) rfl ?_
  refine r_aload_n 27 dX5_tryHop_26 rfl rfl rfl ?_
  refine r_getf 30 dX5_tryHop_27 rfl f_X5_10.r (by repeat (first | assumption | exact isBd.o (by assumption) | exact isHp.o (by assumption) | refine gs_eq ?_ | refine gs_ne (by omega) ?_ | exact is_of (by assumption) | refine gs_is ?_)) rfl ?_
  refine r_callV0 33 dX5_tryHop_30 rfl (tX0_copyFrom hn hb (by omega)) l_X5_31 mX0_copyFrom rfl (by repeat (first | assumption | exact isBd.o (by assumption) | exact isHp.o (by assumption) | refine gs_eq ?_ | refine gs_ne (by omega) ?_ | exact is_of (by assumption) | refine gs_is ?_)) rfl (by decide) (Nat.le_of_ble_eq_true rfl) (by decide) (qN fun w1 h1 => ?_)
  have g0 := h1.1.at (h := y) (by unfold bS; omega) hy
  have g1 := h1.1.at (h := y1) (by unfold bS; omega) hy1
  have g2 := h1.2
  have g3 := hh.fr h1.1 (fun q a b => ha2.hh a b)
  refine r_aload_n 34 dX5_tryHop_33 rfl rfl rfl ?_
  refine r_getf 37 dX5_tryHop_34 rfl f_X5_23.r (by repeat (first | assumption | exact isBd.o (by assumption) | exact isHp.o (by assumption) | refine gs_eq ?_ | refine gs_ne (by omega) ?_ | exact is_of (by assumption) | refine gs_is ?_)) rfl ?_
  refine r_getf 40 dX5_tryHop_37 rfl f_X5_10.r (by repeat (first | assumption | exact isBd.o (by assumption) | exact isHp.o (by assumption) | refine gs_eq ?_ | refine gs_ne (by omega) ?_ | exact is_of (by assumption) | refine gs_is ?_)) rfl ?_
  refine r_aload_n 41 dX5_tryHop_40 rfl rfl rfl ?_
  refine r_getf 44 dX5_tryHop_41 rfl f_X5_19.r (by repeat (first | assumption | exact isBd.o (by assumption) | exact isHp.o (by assumption) | refine gs_eq ?_ | refine gs_ne (by omega) ?_ | exact is_of (by assumption) | refine gs_is ?_)) rfl ?_
  refine r_iload_n 45 dX5_tryHop_44 rfl rfl ?_
  refine r_callV0 48 dX5_tryHop_45 rfl (tX0_make h1.2 (hh.fr h1.1 (fun q a b => ha2.hh a b)) ha2 hq hto hfr) l_X5_35 mX0_make rfl (by repeat (first | assumption | exact isBd.o (by assumption) | exact isHp.o (by assumption) | refine gs_eq ?_ | refine gs_ne (by omega) ?_ | exact is_of (by assumption) | refine gs_is ?_)) rfl (by decide) (Nat.le_of_ble_eq_true rfl) (by decide) (qN fun w2 h2 => ?_)
  refine r_vret dX5_tryHop_48 rfl (by decide) (by decide) ?_
  exact ⟨rfl, h1.tr h2⟩

