/-! ===== the model: signs that are put ===== -/
theorem and255 (r : Int64) : 0 ≤ (r &&& 255).toInt ∧ (r &&& 255).toInt < 256 := by
  have h : (r &&& 255).toBitVec.toNat ≤ 255 := by
    rw [Int64.toBitVec_and, BitVec.toNat_and]
    exact Nat.and_le_right
  have e : (r &&& 255).toInt = ((r &&& 255).toBitVec.toNat : Int) := BitVec.toInt_eq_toNat_of_lt (by omega)
  rw [e]
  omega
theorem badC_in (r : Int64) : inI ((r &&& 255).toInt32) 33 126 = !badC r := by
  obtain ⟨h0, h1⟩ := and255 r
  have e : ((r &&& 255).toInt32).toInt = (r &&& 255).toInt := by
    rw [Int64.toInt_toInt32]
    exact Int.bmod_eq_of_le (by omega) (by omega)
  unfold inI badC
  have e1 : ((33 : Int32) ≤ (r &&& 255).toInt32 ∧ (r &&& 255).toInt32 ≤ 126) ↔ ¬ (r &&& 255 < 33 ∨ 126 < r &&& 255) := by
    rw [Int32.le_iff_toInt_le, Int32.le_iff_toInt_le, e, Int64.lt_iff_toInt_lt, Int64.lt_iff_toInt_lt]
    have a1 : (33 : Int32).toInt = 33 := rfl
    have a2 : (126 : Int32).toInt = 126 := rfl
    have a3 : (33 : Int64).toInt = 33 := rfl
    have a4 : (126 : Int64).toInt = 126 := rfl
    omega
  simp only [e1, decide_not]
theorem shr8_n (r : Int64) : (shr8 r).toUInt64.toNat = r.toUInt64.toNat / 256 := by
  unfold shr8
  show (r.toUInt64 >>> ((8 : Int32).toInt64.toUInt64 &&& Int64.toUInt64 63)).toNat = _
  rw [UInt64.toNat_shiftRight, show ((8 : Int32).toInt64.toUInt64 &&& Int64.toUInt64 63).toNat % 64 = 8 by decide, Nat.shiftRight_eq_div_pow]
theorem i64_0 {r : Int64} (h : r.toUInt64.toNat = 0) : r = 0 := by
  obtain ⟨u⟩ := r
  have h1 : u = 0 := UInt64.toNat_inj.mp (by rw [show u.toNat = 0 from h]; rfl)
  rw [h1]
  rfl

set_option maxRecDepth 100000 in
theorem tX7_put {Γ : CT} {w : PW} {f n : Nat → Int32} {mv jp : Int32} {cl lo : Nat → Int32} {ps : List T3} {cs mk qt oc : Int32} {P : List P3} {HM : List MG} {SM : Nat → Option MG} {pf : Nat → Int32} {pn : Nat} {c : Int64} (hr : isMD w ((f, n, mv, jp, cl, lo, ps, cs, mk, qt, oc), P) HM SM pf pn) : Cl Γ yX7_put XX7_put 9 0 0 [.ref 43, .long c] w (if nsO 8 c 0 = 0 then rI (-2) w else if 60 < pn + nsO 8 c 0 then rI (-4) w else rP (nI (pn + nsO 8 c 0)) (toMD w ((f, n, mv, jp, cl, lo, ps, cs, mk, qt, oc), P) HM SM (apF c pf pn (nsO 8 c 0)) (pn + nsO 8 c 0))) := by
  refine Cl.of (ls := [some (.ref 43), some (.long c), none, none, none, none, none, none]) rfl (by decide +kernel) (fun h => by cases h) (Nat.le_of_ble_eq_true rfl) rfl ?_
  obtain ⟨hk, ⟨z, hz, hG⟩, W, hW⟩ := id hr
  obtain ⟨rm, sp, wr, pa, sl, sv, rd, ho, hpa, hH6, hpH, hsl, hsv, hpS, hpd, hpn, hrd⟩ := id hk
  have hA : zA z f mv oc cs cl mk jp lo qt P := hG.1
  have hP61 := hG.2
  have app : ∀ (nn : Nat) (r : Int64), nn = nsO 8 c 0 → ¬ nn = 0 → pn + nn ≤ 60 → ∀ (i : Nat) (u : PW) (x : Int32) (pg : Nat → Int32) (pm : Nat), x = nI i - 1 → i ≤ nn → pm + i = pn + nn → apF c pg pm i = apF c pf pn nn → Fr w u (fun q => q = 43 ∨ q = 48) → u[43]? = some (oM (nI HM.length) (nI pm) rm sp wr) → u[48]? = some (aC 60 pg) → Rn Γ XX7_put (rmO 9 0 0) none (FinM (if nsO 8 c 0 = 0 then rI (-2) w else if 60 < pn + nsO 8 c 0 then rI (-4) w else rP (nI (pn + nsO 8 c 0)) (toMD w ((f, n, mv, jp, cl, lo, ps, cs, mk, qt, oc), P) HM SM (apF c pf pn (nsO 8 c 0)) (pn + nsO 8 c 0))) 0 0) 0 0 u 80 [some (.ref 43), some (.long c), none, some (.int (nI nn)), some (.long r), none, some (.int 1), some (.int x)] [] := by
    intro nn r hnn hnz hle i
    induction i with
    | zero =>
      intro u x pg pm hx hi hpm hap hF hu3 hu8
      refine r_iload 82 dX7_put_80 rfl rfl ?_
      refine r_if_lt 123 85 dX7_put_82 (by decide) rfl (fun q82 => ?_) (fun q82 => absurd q82 (fun z => z (by rw [hx]; decide)))
      refine r_aload_n 124 dX7_put_123 rfl rfl rfl ?_
      refine r_getf 127 dX7_put_124 rfl f_X7_174.r (by repeat (first | assumption | refine gs_eq ?_ | refine gs_ne (by omega) ?_ | exact is_of (by assumption) | refine gs_is ?_)) rfl ?_
      refine r_iret dX7_put_127 rfl (by decide) (by decide) ?_
      rw [if_neg (by rw [← hnn]; exact hnz), if_neg (by rw [← hnn]; omega), ← hnn, ← hap]
      have hpmn : pm = pn + nn := by omega
      subst hpmn
      exact ⟨rfl, hF.mono (fun q a => by unfold mS; omega), ⟨rm, sp, wr, pa, sl, sv, rd, hu3, hF.at (by decide) hpa, hH6, hpH, hF.at (by decide) hsl, hF.at (by decide) hsv, hpS, hu8, hle, hF.at (by decide) hrd⟩, ⟨z, hF.at (by decide) hz, hG⟩, W, hW.fr hF (fun q a b => by unfold wS at a; omega)⟩
    | succ i ih =>
      intro u x pg pm hx hi hpm hap hF hu3 hu8
      have hxi : x = nI i := by rw [hx, nI_pred]
      subst hxi
      refine r_iload 82 dX7_put_80 rfl rfl ?_
      refine r_if_lt 123 85 dX7_put_82 (by decide) rfl (fun q82 => absurd q82 (nI_pos (by omega))) (fun q82 => ?_)
      refine r_aload_n 86 dX7_put_85 rfl rfl rfl ?_
      refine r_getf 89 dX7_put_86 rfl f_X7_23.r (by repeat (first | assumption | refine gs_eq ?_ | refine gs_ne (by omega) ?_ | exact is_of (by assumption) | refine gs_is ?_)) rfl ?_
      refine r_aload_n 90 dX7_put_89 rfl rfl rfl ?_
      refine r_getf 93 dX7_put_90 rfl f_X7_174.r (by repeat (first | assumption | refine gs_eq ?_ | refine gs_ne (by omega) ?_ | exact is_of (by assumption) | refine gs_is ?_)) rfl ?_
      refine r_lload_n 94 dX7_put_93 rfl rfl ?_
      refine r_bipush (v := 8) 96 dX7_put_94 rfl (by decide) ?_
      refine r_iload 98 dX7_put_96 rfl rfl ?_
      refine r_imul 99 dX7_put_98 rfl ?_
      refine r_lushr 100 dX7_put_99 rfl rfl ?_
      refine r_ldc2 103 dX7_put_100 rfl k_X7_198 ?_
      refine r_land 104 dX7_put_103 rfl ?_
      refine r_l2i 105 dX7_put_104 rfl rfl ?_
      refine r_i2c 106 dX7_put_105 rfl rfl ?_
      refine r_cast 107 dX7_put_106 rfl (pm) (by repeat (first | assumption | refine gs_eq ?_ | refine gs_ne (by omega) ?_ | exact is_of (by assumption) | refine gs_is ?_)) rfl (by omega) (by decide) ?_
      refine r_aload_n 108 dX7_put_107 rfl rfl rfl ?_
      refine r_dup 109 dX7_put_108 rfl rfl ?_
      refine r_getf 112 dX7_put_109 rfl f_X7_174.r (by repeat (first | assumption | refine gs_eq ?_ | refine gs_ne (by omega) ?_ | exact is_of (by assumption) | refine gs_is ?_)) rfl ?_
      refine r_iconst (v := 1) 113 dX7_put_112 rfl (by decide) ?_
      refine r_iadd 114 dX7_put_113 rfl ?_
      rw [nI_1 pm]
      refine r_putf (fs1 := [_, _, _, _, _, _, _, _, _, _, _, _, _, _, _, _, _, _, _, _]) 117 dX7_put_114 rfl f_X7_174 (by repeat (first | assumption | refine gs_eq ?_ | refine gs_ne (by omega) ?_ | exact is_of (by assumption) | refine gs_is ?_)) rfl (by simp only [List.length_cons, List.length_nil]; omega) rfl ?_
      refine r_iinc (ls1 := [_, _, _, _, _, _, _, _]) 120 dX7_put_117 rfl (by decide) rfl rfl rfl rfl ?_
      refine r_goto 80 dX7_put_120 (by decide) ?_
      exact ih _ _ (upd pg pm (chO c (nI i))) (pm + 1) (m1_sub _) (by omega) (by omega) hap ((hF.sr (Or.inr rfl)).sr (Or.inl rfl)) (by repeat (first | assumption | refine gs_eq ?_ | refine gs_ne (by omega) ?_ | exact is_of (by assumption) | refine gs_is ?_)) (by repeat (first | assumption | refine gs_eq ?_ | refine gs_ne (by omega) ?_ | exact is_of (by assumption) | refine gs_is ?_))
  have fin : ∀ (nn : Nat) (r : Int64) (g : Bool), nn = nsO 8 c 0 → nn ≤ 8 → g = true → Rn Γ XX7_put (rmO 9 0 0) none (FinM (if nsO 8 c 0 = 0 then rI (-2) w else if 60 < pn + nsO 8 c 0 then rI (-4) w else rP (nI (pn + nsO 8 c 0)) (toMD w ((f, n, mv, jp, cl, lo, ps, cs, mk, qt, oc), P) HM SM (apF c pf pn (nsO 8 c 0)) (pn + nsO 8 c 0))) 0 0) 0 0 w 49 [some (.ref 43), some (.long c), none, some (.int (nI nn)), some (.long r), none, some (.int (bI g)), none] [] := by
    intro nn r g hnn h8 hg
    subst hg
    refine r_iload_n 50 dX7_put_49 rfl rfl ?_
    refine r_if_eq 58 53 dX7_put_50 (by decide) rfl (fun q50 => ?_) (fun q50 => ?_)
    · refine r_bipush (v := (-2)) 60 dX7_put_58 rfl (by decide) ?_
      refine r_iret dX7_put_60 rfl (by decide) (by decide) ?_
      rw [if_pos (by rw [← hnn]; exact nI_z (by omega) q50)]
      exact ⟨rfl, rfl⟩
    · refine r_iload 55 dX7_put_53 rfl rfl ?_
      refine r_if_ne 61 58 dX7_put_55 (by decide) rfl (fun q55 => ?_) (fun q55 => absurd q55 (by decide))
      refine r_aload_n 62 dX7_put_61 rfl rfl rfl ?_
      refine r_getf 65 dX7_put_62 rfl f_X7_174.r (by repeat (first | assumption | refine gs_eq ?_ | refine gs_ne (by omega) ?_ | exact is_of (by assumption) | refine gs_is ?_)) rfl ?_
      refine r_iload_n 66 dX7_put_65 rfl rfl ?_
      refine r_iadd 67 dX7_put_66 rfl ?_
      rw [nI_add]
      refine r_bipush (v := nI 60) 69 dX7_put_67 rfl (by decide) ?_
      refine r_icmp_le 75 72 dX7_put_69 (by decide) rfl (fun q69 => ?_) (fun q69 => ?_)
      · refine r_iload_n 76 dX7_put_75 rfl rfl ?_
        refine r_iconst (v := 1) 77 dX7_put_76 rfl (by decide) ?_
        refine r_isub 78 dX7_put_77 rfl ?_
        refine r_istore (ls1 := [_, _, _, _, _, _, _, _]) 80 dX7_put_78 rfl (by decide) rfl rfl ?_
        exact app nn r hnn (fun z => q50 (by rw [z]; rfl)) ((nI_leI (by omega) (by omega)).mp q69) nn w _ pf pn rfl (Nat.le_refl _) rfl rfl Fr.rf ho hpd
      · refine r_bipush (v := (-4)) 74 dX7_put_72 rfl (by decide) ?_
        refine r_iret dX7_put_74 rfl (by decide) (by decide) ?_
        rw [if_neg (by rw [← hnn]; exact fun z => q50 (by rw [z]; rfl)), if_pos (by rw [← hnn]; rcases Nat.lt_or_ge 60 (pn + nn) with h | h <;> first | exact h | exact absurd (nI_le h (by omega)) q69)]
        exact ⟨rfl, rfl⟩
  have bad : ∀ (i : Nat) (r : Int64) (g : Bool), i < 8 → nsO 8 c 0 = 0 → g = false → Rn Γ XX7_put (rmO 9 0 0) none (FinM (if nsO 8 c 0 = 0 then rI (-2) w else if 60 < pn + nsO 8 c 0 then rI (-4) w else rP (nI (pn + nsO 8 c 0)) (toMD w ((f, n, mv, jp, cl, lo, ps, cs, mk, qt, oc), P) HM SM (apF c pf pn (nsO 8 c 0)) (pn + nsO 8 c 0))) 0 0) 0 0 w 8 [some (.ref 43), some (.long c), none, some (.int (nI (i + 1))), some (.long r), none, some (.int (bI g)), none] [] := by
    intro i r g hi h0 hg
    subst hg
    refine r_lload 10 dX7_put_8 rfl rfl ?_
    refine r_lconst (v := 0) 11 dX7_put_10 rfl (by decide) ?_
    refine r_lcmp 12 dX7_put_11 rfl ?_
    refine r_if_eq 49 15 dX7_put_12 (by decide) rfl (fun q12 => ?_) (fun q12 => ?_)
    · refine r_iload_n 50 dX7_put_49 rfl rfl ?_
      refine r_if_eq 58 53 dX7_put_50 (by decide) rfl (fun q50 => ?_) (fun q50 => ?_)
      · refine r_bipush (v := (-2)) 60 dX7_put_58 rfl (by decide) ?_
        refine r_iret dX7_put_60 rfl (by decide) (by decide) ?_
        rw [if_pos h0]
        exact ⟨rfl, rfl⟩
      · refine r_iload 55 dX7_put_53 rfl rfl ?_
        refine r_if_ne 61 58 dX7_put_55 (by decide) rfl (fun q55 => absurd q55 (by decide)) (fun q55 => ?_)
        refine r_bipush (v := (-2)) 60 dX7_put_58 rfl (by decide) ?_
        refine r_iret dX7_put_60 rfl (by decide) (by decide) ?_
        rw [if_pos h0]
        exact ⟨rfl, rfl⟩
    · refine r_iload 17 dX7_put_15 rfl rfl ?_
      refine r_if_eq 49 20 dX7_put_17 (by decide) rfl (fun q17 => ?_) (fun q17 => absurd q17 (by decide))
      refine r_iload_n 50 dX7_put_49 rfl rfl ?_
      refine r_if_eq 58 53 dX7_put_50 (by decide) rfl (fun q50 => ?_) (fun q50 => ?_)
      · refine r_bipush (v := (-2)) 60 dX7_put_58 rfl (by decide) ?_
        refine r_iret dX7_put_60 rfl (by decide) (by decide) ?_
        rw [if_pos h0]
        exact ⟨rfl, rfl⟩
      · refine r_iload 55 dX7_put_53 rfl rfl ?_
        refine r_if_ne 61 58 dX7_put_55 (by decide) rfl (fun q55 => absurd q55 (by decide)) (fun q55 => ?_)
        refine r_bipush (v := (-2)) 60 dX7_put_58 rfl (by decide) ?_
        refine r_iret dX7_put_60 rfl (by decide) (by decide) ?_
        rw [if_pos h0]
        exact ⟨rfl, rfl⟩
  have loop : ∀ (m i : Nat) (r : Int64) (g : Bool), i + m = 8 → nsO m r i = nsO 8 c 0 → r.toUInt64.toNat < 256 ^ m → g = true → Rn Γ XX7_put (rmO 9 0 0) none (FinM (if nsO 8 c 0 = 0 then rI (-2) w else if 60 < pn + nsO 8 c 0 then rI (-4) w else rP (nI (pn + nsO 8 c 0)) (toMD w ((f, n, mv, jp, cl, lo, ps, cs, mk, qt, oc), P) HM SM (apF c pf pn (nsO 8 c 0)) (pn + nsO 8 c 0))) 0 0) 0 0 w 8 [some (.ref 43), some (.long c), none, some (.int (nI i)), some (.long r), none, some (.int (bI g)), none] [] := by
    intro m
    induction m with
    | zero =>
      intro i r g hi hu hr1 hg
      have hr0 : r = 0 := i64_0 (by simpa using hr1)
      subst hr0
      refine r_lload 10 dX7_put_8 rfl rfl ?_
      refine r_lconst (v := 0) 11 dX7_put_10 rfl (by decide) ?_
      refine r_lcmp 12 dX7_put_11 rfl ?_
      refine r_if_eq 49 15 dX7_put_12 (by decide) rfl (fun q12 => ?_) (fun q12 => absurd q12 (fun z => z rfl))
      exact fin i _ _ (by rw [← hu]; rfl) (by omega) hg
    | succ m ih =>
      intro i r g hi hu hr1 hg
      rw [nsO] at hu
      subst hg
      refine r_lload 10 dX7_put_8 rfl rfl ?_
      refine r_lconst (v := 0) 11 dX7_put_10 rfl (by decide) ?_
      refine r_lcmp 12 dX7_put_11 rfl ?_
      refine r_if_eq 49 15 dX7_put_12 (by decide) rfl (fun q12 => ?_) (fun q12 => ?_)
      · exact fin i _ _ (by rw [← hu, if_pos (lc_0 q12)]) (by omega) rfl
      · refine r_iload 17 dX7_put_15 rfl rfl ?_
        refine r_if_eq 49 20 dX7_put_17 (by decide) rfl (fun q17 => absurd q17 (by decide)) (fun q17 => ?_)
        refine r_lload 22 dX7_put_20 rfl rfl ?_
        refine r_ldc2 25 dX7_put_22 rfl k_X7_198 ?_
        refine r_land 26 dX7_put_25 rfl ?_
        refine r_l2i 27 dX7_put_26 rfl rfl ?_
        refine r_bipush (v := 33) 29 dX7_put_27 rfl (by decide) ?_
        refine r_bipush (v := 126) 31 dX7_put_29 rfl (by decide) ?_
        refine r_callS0 34 dX7_put_31 rfl (tX7_in) l_X7_61 mX7_in rfl (by decide) (Nat.le_of_ble_eq_true rfl) (by decide) (qI ?_)
        refine r_istore (ls1 := [_, _, _, _, _, _, _, _]) 36 dX7_put_34 rfl (by decide) rfl rfl ?_
        refine r_lload 38 dX7_put_36 rfl rfl ?_
        refine r_bipush (v := 8) 40 dX7_put_38 rfl (by decide) ?_
        refine r_lushr 41 dX7_put_40 rfl rfl ?_
        refine r_lstore (ls1 := [_, _, _, _, _, _, _, _]) 43 dX7_put_41 rfl (by decide) rfl rfl ?_
        refine r_iinc (ls1 := [_, _, _, _, _, _, _, _]) 46 dX7_put_43 rfl (by decide) rfl rfl (nI_1 i) rfl ?_
        refine r_goto 8 dX7_put_46 (by decide) ?_
        rw [if_neg (lc_n q12)] at hu
        rcases hb : badC r with _ | _
        · rw [hb, if_neg (by decide)] at hu
          exact ih (i + 1) (shr8 r) _ (by omega) hu (by rw [shr8_n]; rw [Nat.pow_succ] at hr1; omega) (by rw [badC_in, hb]; rfl)
        · rw [hb, if_pos rfl] at hu
          exact bad i _ _ (by omega) hu.symm (by rw [badC_in, hb]; rfl)
  refine r_iconst (v := nI 0) 1 dX7_put_0 rfl (by decide) ?_
  refine r_istore_n (ls1 := [_, _, _, _, _, _, _, _]) 2 dX7_put_1 rfl (by decide) rfl rfl ?_
  refine r_lload_n 3 dX7_put_2 rfl rfl ?_
  refine r_lstore (ls1 := [_, _, _, _, _, _, _, _]) 5 dX7_put_3 rfl (by decide) rfl rfl ?_
  refine r_iconst (v := 1) 6 dX7_put_5 rfl (by decide) ?_
  refine r_istore (ls1 := [_, _, _, _, _, _, _, _]) 8 dX7_put_6 rfl (by decide) rfl rfl ?_
  exact loop 8 0 c true (by omega) rfl (Nat.lt_of_lt_of_le c.toUInt64.toNat_lt (by decide)) rfl

