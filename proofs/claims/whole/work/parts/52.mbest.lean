/-! ===== the model: rows, worth, best ===== -/
theorem x_in {x : Int32} {a b : Nat} (ha : a < 1000) (hb : b < 1000) (h : nI a ≤ x ∧ x ≤ nI b) : ∃ k, a ≤ k ∧ k ≤ b ∧ x = nI k := by
  have h0 : ¬ x < 0 := by
    intro z
    have h1 := Int32.lt_of_le_of_lt h.1 z
    exact absurd h1 (nI_pos (by omega))
  obtain ⟨k, hk, e⟩ := nI_of2 (M := nI b) (n := b) (nI_toInt (by omega)) h0 h.2
  refine ⟨k, ?_, hk, e⟩
  have h2 := h.1
  rw [e] at h2
  exact (nI_leI (by omega) (by omega)).mp h2
theorem mn_k {n : Nat} (hn : n < 1000000) : (if nI n < 20000 then nI n else 20000) = nI (min n 20000) := by
  by_cases h : n < 20000
  · rw [if_pos (show nI n < 20000 from nI_lt h (by decide)), Nat.min_eq_left (by omega)]
  · rw [if_neg (show ¬ nI n < 20000 from nI_nlt (a := n) (b := 20000) (by omega) (by omega)), Nat.min_eq_right (by omega)]
    rfl
set_option maxRecDepth 100000 in
theorem tX7_rows {Γ : CT} {w : PW} {f n : Nat → Int32} {mv jp : Int32} {cl lo : Nat → Int32} {ps : List T3} {cs mk qt oc : Int32} {P : List P3} {HM : List MG} {SM : Nat → Option MG} {pf : Nat → Int32} {pn : Nat} {x : Int32} (hr : isMD w ((f, n, mv, jp, cl, lo, ps, cs, mk, qt, oc), P) HM SM pf pn) (hI : GI ((f, n, mv, jp, cl, lo, ps, cs, mk, qt, oc), P)) : Cl Γ yX7_rows XX7_rows 9 0 0 [.ref 43, .int x] w (if 1 ≤ x ∧ x ≤ 3 then (if oc = 0 then rP (nI (nR (x.toNatClampNeg - 1) f mv jp 20000)) (toMD w ((f, n, mv, jp, cl, lo, ps, cs, mk, qt, oc), P) HM SM pf pn) else rP 0 (toMD w ((f, n, mv, jp, cl, lo, ps, cs, mk, qt, oc), P) HM SM pf pn)) else rI (-2) w) := by
  refine Cl.of (ls := [some (.ref 43), some (.int x), none]) rfl (by decide +kernel) (fun h => by cases h) (Nat.le_of_ble_eq_true rfl) rfl ?_
  obtain ⟨hk, ⟨z, hz, hG⟩, W, hW⟩ := id hr
  obtain ⟨rm, sp, wr, pa, sl, sv, rd, ho, hpa, hH6, hpH, hsl, hsv, hpS, hpd, hpn, hrd⟩ := id hk
  have hA : zA z f mv oc cs cl mk jp lo qt P := hG.1
  have hP61 := hG.2
  obtain ⟨hok, hf, hnC, hsL, hjj, hjp, hpP, hPo, hclp, hcsp, hoc0⟩ := id hI
  have hf : okF f := hf
  have hnC : nC f n := hnC
  have hsL : sdL f := hsL
  have hjj : jjO f mv jp := hjj
  have hmv : mv = 0 ∨ mv = 1 := hok.1
  have hpP : ps = P.map t3p := hpP
  have hPo : ∀ p ∈ P, okp3 p := hPo
  refine r_iload_n 1 dX7_rows_0 rfl rfl ?_
  refine r_iconst (v := 1) 2 dX7_rows_1 rfl (by decide) ?_
  refine r_iconst (v := 3) 3 dX7_rows_2 rfl (by decide) ?_
  refine r_callS0 6 dX7_rows_3 rfl (tX7_in) l_X7_61 mX7_in rfl (by decide) (Nat.le_of_ble_eq_true rfl) (by decide) (qI ?_)
  refine r_if_ne 12 9 dX7_rows_6 (by decide) rfl (fun q6 => ?_) (fun q6 => ?_)
  · refine r_aload_n 13 dX7_rows_12 rfl rfl rfl ?_
    refine r_callV0 16 dX7_rows_13 rfl (tX7_look ho hz hA.F hW hf hmv hjj) l_X7_124 mX7_look rfl (by repeat (first | assumption | refine gs_eq ?_ | refine gs_ne (by omega) ?_ | exact is_of (by assumption) | refine gs_is ?_)) rfl (by decide) (Nat.le_of_ble_eq_true rfl) (by decide) (qN fun w1 h1 => ?_)
    obtain ⟨hFL, V, hV, hb, hsV, hc0, hl⟩ := id h1
    have oV := (hFL.2 43 (by unfold wS; omega)).trans ho
    have zV := (hFL.2 44 (by unfold wS; omega)).trans hz
    obtain ⟨v49, v50, v51, v52, v53, v54, v55, v56, v57⟩ := id hV
    have eh := hl.2.1
    have hl192 := hl.1
    refine r_aload_n 17 dX7_rows_16 rfl rfl rfl ?_
    refine r_getf 20 dX7_rows_17 rfl f_X7_7.r (by repeat (first | assumption | refine gs_eq ?_ | refine gs_ne (by omega) ?_ | exact is_of (by assumption) | refine gs_is ?_)) rfl ?_
    refine r_bipush (v := 49) 22 dX7_rows_20 rfl (by decide) ?_
    refine r_iald 23 dX7_rows_22 rfl (49) (by repeat (first | assumption | refine gs_eq ?_ | refine gs_ne (by omega) ?_ | exact is_of (by assumption) | refine gs_is ?_)) rfl (by decide) (by decide) ?_
    rw [hA.2.2.1]
    refine r_if_eq 28 26 dX7_rows_23 (by decide) rfl (fun q23 => ?_) (fun q23 => ?_)
    · have hoz : hopsN f mv jp oc = hopsC f mv jp := by unfold hopsN; rw [if_pos q23]
      rw [hoz] at hl eh hl192
      have hVa : atL V 0 f mv jp := ⟨hb, hsV, hc0⟩
      have hzf : zF z f mv jp 0 := ⟨hA.F.1, hA.F.2.1, hA.F.2.2.1, by rw [← q23]; exact hA.F.2.2.2⟩
      have hx := of_decide_eq_true (ne_f q6)
      have hb1 := mR_b 1 f mv jp 20000 hmv
      have hb2 := mR_b 2 f mv jp 20000 hmv
      refine r_iload_n 29 dX7_rows_28 rfl rfl ?_
      refine r_iconst (v := 1) 30 dX7_rows_29 rfl (by decide) ?_
      refine r_icmp_ne 42 33 dX7_rows_30 (by decide) rfl (fun q30 => ?_) (fun q30 => ?_)
      · refine r_iload_n 43 dX7_rows_42 rfl rfl ?_
        refine r_iconst (v := 2) 44 dX7_rows_43 rfl (by decide) ?_
        refine r_icmp_ne 58 47 dX7_rows_44 (by decide) rfl (fun q44 => ?_) (fun q44 => ?_)
        · have hx3 : x.toNatClampNeg = 2 + 1 := by
            obtain ⟨k, h1, h3, e⟩ := x_in (a := 1) (b := 3) (by decide) (by decide) hx
            have k1 : k ≠ 1 := fun z => q30 (by rw [e, z]; rfl)
            have k2 : k ≠ 2 := fun z => q44 (by rw [e, z]; rfl)
            rw [e, nI_clamp (by omega)]
            omega
          refine r_aload_n 59 dX7_rows_58 rfl rfl rfl ?_
          refine r_callV0 62 dX7_rows_59 rfl (tX7_rowsOfThree oV zV hzf hV hf hmv hjj) l_X7_180 mX7_rowsOfThree rfl (by repeat (first | assumption | refine gs_eq ?_ | refine gs_ne (by omega) ?_ | exact is_of (by assumption) | refine gs_is ?_)) rfl (by decide) (Nat.le_of_ble_eq_true rfl) (by decide) (qP fun w3 h3 => ?_)
          obtain ⟨hF3, V3, hV3⟩ := h3
          refine r_istore_n (ls1 := [_, _, _]) 63 dX7_rows_62 rfl (by decide) rfl rfl ?_
          refine r_iload_n 64 dX7_rows_63 rfl rfl ?_
          refine r_sipush (v := 20000) 67 dX7_rows_64 rfl (by decide) ?_
          refine r_icmp_ge 74 70 dX7_rows_67 (by decide) rfl (fun q67 => ?_) (fun q67 => ?_)
          · refine r_sipush (v := 20000) 77 dX7_rows_74 rfl (by decide) ?_
            refine r_iret dX7_rows_77 rfl (by decide) (by decide) ?_
            first
            | (have hk : x.toNatClampNeg = 0 + 1 := by first | (rw [q30]; decide) | (rw [q44]; decide) | exact hx3
               rw [if_pos hx, if_pos q23, hk]
               refine ⟨congrArg (fun v => some (Value.int v)) ?_, hr.lk hFL hV⟩
               rw [Nat.add_sub_cancel, ← mR_min]
               show _ = nI (min _ 20000)
               first
               | (rw [← mn_k (by omega), if_pos (Int32.not_le.mp q67)] <;> rfl)
               | (rw [← mn_k (by omega), if_neg (Int32.not_lt.mpr q67)] <;> rfl))
            | (have hk : x.toNatClampNeg = 1 + 1 := by first | (rw [q30]; decide) | (rw [q44]; decide) | exact hx3
               rw [if_pos hx, if_pos q23, hk]
               refine ⟨congrArg (fun v => some (Value.int v)) ?_, hr.lk (hFL.tr hF2) hV2⟩
               rw [Nat.add_sub_cancel, ← mR_min]
               show _ = nI (min _ 20000)
               first
               | (rw [← mn_k (by omega), if_pos (Int32.not_le.mp q67)] <;> rfl)
               | (rw [← mn_k (by omega), if_neg (Int32.not_lt.mpr q67)] <;> rfl))
            | (have hk : x.toNatClampNeg = 2 + 1 := by first | (rw [q30]; decide) | (rw [q44]; decide) | exact hx3
               rw [if_pos hx, if_pos q23, hk]
               refine ⟨congrArg (fun v => some (Value.int v)) ?_, hr.lk (hFL.tr hF3) hV3⟩
               rw [Nat.add_sub_cancel, ← mR_min]
               show _ = nI (min _ 20000)
               first
               | (rw [← mn_k (by omega), if_pos (Int32.not_le.mp q67)] <;> rfl)
               | (rw [← mn_k (by omega), if_neg (Int32.not_lt.mpr q67)] <;> rfl))
          · refine r_iload_n 71 dX7_rows_70 rfl rfl ?_
            refine r_goto 77 dX7_rows_71 (by decide) ?_
            refine r_iret dX7_rows_77 rfl (by decide) (by decide) ?_
            first
            | (have hk : x.toNatClampNeg = 0 + 1 := by first | (rw [q30]; decide) | (rw [q44]; decide) | exact hx3
               rw [if_pos hx, if_pos q23, hk]
               refine ⟨congrArg (fun v => some (Value.int v)) ?_, hr.lk hFL hV⟩
               rw [Nat.add_sub_cancel, ← mR_min]
               show _ = nI (min _ 20000)
               first
               | (rw [← mn_k (by omega), if_pos (Int32.not_le.mp q67)] <;> rfl)
               | (rw [← mn_k (by omega), if_neg (Int32.not_lt.mpr q67)] <;> rfl))
            | (have hk : x.toNatClampNeg = 1 + 1 := by first | (rw [q30]; decide) | (rw [q44]; decide) | exact hx3
               rw [if_pos hx, if_pos q23, hk]
               refine ⟨congrArg (fun v => some (Value.int v)) ?_, hr.lk (hFL.tr hF2) hV2⟩
               rw [Nat.add_sub_cancel, ← mR_min]
               show _ = nI (min _ 20000)
               first
               | (rw [← mn_k (by omega), if_pos (Int32.not_le.mp q67)] <;> rfl)
               | (rw [← mn_k (by omega), if_neg (Int32.not_lt.mpr q67)] <;> rfl))
            | (have hk : x.toNatClampNeg = 2 + 1 := by first | (rw [q30]; decide) | (rw [q44]; decide) | exact hx3
               rw [if_pos hx, if_pos q23, hk]
               refine ⟨congrArg (fun v => some (Value.int v)) ?_, hr.lk (hFL.tr hF3) hV3⟩
               rw [Nat.add_sub_cancel, ← mR_min]
               show _ = nI (min _ 20000)
               first
               | (rw [← mn_k (by omega), if_pos (Int32.not_le.mp q67)] <;> rfl)
               | (rw [← mn_k (by omega), if_neg (Int32.not_lt.mpr q67)] <;> rfl))
        · refine r_aload_n 48 dX7_rows_47 rfl rfl rfl ?_
          refine r_iconst (v := nI 0) 49 dX7_rows_48 rfl (by decide) ?_
          refine r_sipush (v := nI 20000) 52 dX7_rows_49 rfl (by decide) ?_
          refine r_callV0 55 dX7_rows_52 rfl (tX7_rowsOfTwo (L := 0) oV zV hV hVa (by decide) hf hmv hjj (by decide)) l_X7_177 mX7_rowsOfTwo rfl (by repeat (first | assumption | refine gs_eq ?_ | refine gs_ne (by omega) ?_ | exact is_of (by assumption) | refine gs_is ?_)) rfl (by decide) (Nat.le_of_ble_eq_true rfl) (by decide) (qP fun w2 h2 => ?_)
          obtain ⟨hF2, V2, hV2, -⟩ := h2
          refine r_goto 62 dX7_rows_55 (by decide) ?_
          refine r_istore_n (ls1 := [_, _, _]) 63 dX7_rows_62 rfl (by decide) rfl rfl ?_
          refine r_iload_n 64 dX7_rows_63 rfl rfl ?_
          refine r_sipush (v := 20000) 67 dX7_rows_64 rfl (by decide) ?_
          refine r_icmp_ge 74 70 dX7_rows_67 (by decide) rfl (fun q67 => ?_) (fun q67 => ?_)
          · refine r_sipush (v := 20000) 77 dX7_rows_74 rfl (by decide) ?_
            refine r_iret dX7_rows_77 rfl (by decide) (by decide) ?_
            first
            | (have hk : x.toNatClampNeg = 0 + 1 := by first | (rw [q30]; decide) | (rw [q44]; decide) | exact hx3
               rw [if_pos hx, if_pos q23, hk]
               refine ⟨congrArg (fun v => some (Value.int v)) ?_, hr.lk hFL hV⟩
               rw [Nat.add_sub_cancel, ← mR_min]
               show _ = nI (min _ 20000)
               first
               | (rw [← mn_k (by omega), if_pos (Int32.not_le.mp q67)] <;> rfl)
               | (rw [← mn_k (by omega), if_neg (Int32.not_lt.mpr q67)] <;> rfl))
            | (have hk : x.toNatClampNeg = 1 + 1 := by first | (rw [q30]; decide) | (rw [q44]; decide) | exact hx3
               rw [if_pos hx, if_pos q23, hk]
               refine ⟨congrArg (fun v => some (Value.int v)) ?_, hr.lk (hFL.tr hF2) hV2⟩
               rw [Nat.add_sub_cancel, ← mR_min]
               show _ = nI (min _ 20000)
               first
               | (rw [← mn_k (by omega), if_pos (Int32.not_le.mp q67)] <;> rfl)
               | (rw [← mn_k (by omega), if_neg (Int32.not_lt.mpr q67)] <;> rfl))
            | (have hk : x.toNatClampNeg = 2 + 1 := by first | (rw [q30]; decide) | (rw [q44]; decide) | exact hx3
               rw [if_pos hx, if_pos q23, hk]
               refine ⟨congrArg (fun v => some (Value.int v)) ?_, hr.lk (hFL.tr hF3) hV3⟩
               rw [Nat.add_sub_cancel, ← mR_min]
               show _ = nI (min _ 20000)
               first
               | (rw [← mn_k (by omega), if_pos (Int32.not_le.mp q67)] <;> rfl)
               | (rw [← mn_k (by omega), if_neg (Int32.not_lt.mpr q67)] <;> rfl))
          · refine r_iload_n 71 dX7_rows_70 rfl rfl ?_
            refine r_goto 77 dX7_rows_71 (by decide) ?_
            refine r_iret dX7_rows_77 rfl (by decide) (by decide) ?_
            first
            | (have hk : x.toNatClampNeg = 0 + 1 := by first | (rw [q30]; decide) | (rw [q44]; decide) | exact hx3
               rw [if_pos hx, if_pos q23, hk]
               refine ⟨congrArg (fun v => some (Value.int v)) ?_, hr.lk hFL hV⟩
               rw [Nat.add_sub_cancel, ← mR_min]
               show _ = nI (min _ 20000)
               first
               | (rw [← mn_k (by omega), if_pos (Int32.not_le.mp q67)] <;> rfl)
               | (rw [← mn_k (by omega), if_neg (Int32.not_lt.mpr q67)] <;> rfl))
            | (have hk : x.toNatClampNeg = 1 + 1 := by first | (rw [q30]; decide) | (rw [q44]; decide) | exact hx3
               rw [if_pos hx, if_pos q23, hk]
               refine ⟨congrArg (fun v => some (Value.int v)) ?_, hr.lk (hFL.tr hF2) hV2⟩
               rw [Nat.add_sub_cancel, ← mR_min]
               show _ = nI (min _ 20000)
               first
               | (rw [← mn_k (by omega), if_pos (Int32.not_le.mp q67)] <;> rfl)
               | (rw [← mn_k (by omega), if_neg (Int32.not_lt.mpr q67)] <;> rfl))
            | (have hk : x.toNatClampNeg = 2 + 1 := by first | (rw [q30]; decide) | (rw [q44]; decide) | exact hx3
               rw [if_pos hx, if_pos q23, hk]
               refine ⟨congrArg (fun v => some (Value.int v)) ?_, hr.lk (hFL.tr hF3) hV3⟩
               rw [Nat.add_sub_cancel, ← mR_min]
               show _ = nI (min _ 20000)
               first
               | (rw [← mn_k (by omega), if_pos (Int32.not_le.mp q67)] <;> rfl)
               | (rw [← mn_k (by omega), if_neg (Int32.not_lt.mpr q67)] <;> rfl))
      · refine r_aload_n 34 dX7_rows_33 rfl rfl rfl ?_
        refine r_getf 37 dX7_rows_34 rfl f_X7_36.r (by repeat (first | assumption | refine gs_eq ?_ | refine gs_ne (by omega) ?_ | exact is_of (by assumption) | refine gs_is ?_)) rfl ?_
        refine r_iconst (v := 0) 38 dX7_rows_37 rfl (by decide) ?_
        refine r_iald 39 dX7_rows_38 rfl (0) (by repeat (first | assumption | refine gs_eq ?_ | refine gs_ne (by omega) ?_ | exact is_of (by assumption) | refine gs_is ?_)) rfl (by decide) (by decide) ?_
        rw [eh, show (hopsC f mv jp).length = mR 0 f mv jp 20000 from rfl]
        have hb0 : mR 0 f mv jp 20000 ≤ 192 := hl192
        refine r_goto 62 dX7_rows_39 (by decide) ?_
        refine r_istore_n (ls1 := [_, _, _]) 63 dX7_rows_62 rfl (by decide) rfl rfl ?_
        refine r_iload_n 64 dX7_rows_63 rfl rfl ?_
        refine r_sipush (v := 20000) 67 dX7_rows_64 rfl (by decide) ?_
        refine r_icmp_ge 74 70 dX7_rows_67 (by decide) rfl (fun q67 => ?_) (fun q67 => ?_)
        · refine r_sipush (v := 20000) 77 dX7_rows_74 rfl (by decide) ?_
          refine r_iret dX7_rows_77 rfl (by decide) (by decide) ?_
          first
          | (have hk : x.toNatClampNeg = 0 + 1 := by first | (rw [q30]; decide) | (rw [q44]; decide) | exact hx3
             rw [if_pos hx, if_pos q23, hk]
             refine ⟨congrArg (fun v => some (Value.int v)) ?_, hr.lk hFL hV⟩
             rw [Nat.add_sub_cancel, ← mR_min]
             show _ = nI (min _ 20000)
             first
             | (rw [← mn_k (by omega), if_pos (Int32.not_le.mp q67)] <;> rfl)
             | (rw [← mn_k (by omega), if_neg (Int32.not_lt.mpr q67)] <;> rfl))
          | (have hk : x.toNatClampNeg = 1 + 1 := by first | (rw [q30]; decide) | (rw [q44]; decide) | exact hx3
             rw [if_pos hx, if_pos q23, hk]
             refine ⟨congrArg (fun v => some (Value.int v)) ?_, hr.lk (hFL.tr hF2) hV2⟩
             rw [Nat.add_sub_cancel, ← mR_min]
             show _ = nI (min _ 20000)
             first
             | (rw [← mn_k (by omega), if_pos (Int32.not_le.mp q67)] <;> rfl)
             | (rw [← mn_k (by omega), if_neg (Int32.not_lt.mpr q67)] <;> rfl))
          | (have hk : x.toNatClampNeg = 2 + 1 := by first | (rw [q30]; decide) | (rw [q44]; decide) | exact hx3
             rw [if_pos hx, if_pos q23, hk]
             refine ⟨congrArg (fun v => some (Value.int v)) ?_, hr.lk (hFL.tr hF3) hV3⟩
             rw [Nat.add_sub_cancel, ← mR_min]
             show _ = nI (min _ 20000)
             first
             | (rw [← mn_k (by omega), if_pos (Int32.not_le.mp q67)] <;> rfl)
             | (rw [← mn_k (by omega), if_neg (Int32.not_lt.mpr q67)] <;> rfl))
        · refine r_iload_n 71 dX7_rows_70 rfl rfl ?_
          refine r_goto 77 dX7_rows_71 (by decide) ?_
          refine r_iret dX7_rows_77 rfl (by decide) (by decide) ?_
          first
          | (have hk : x.toNatClampNeg = 0 + 1 := by first | (rw [q30]; decide) | (rw [q44]; decide) | exact hx3
             rw [if_pos hx, if_pos q23, hk]
             refine ⟨congrArg (fun v => some (Value.int v)) ?_, hr.lk hFL hV⟩
             rw [Nat.add_sub_cancel, ← mR_min]
             show _ = nI (min _ 20000)
             first
             | (rw [← mn_k (by omega), if_pos (Int32.not_le.mp q67)] <;> rfl)
             | (rw [← mn_k (by omega), if_neg (Int32.not_lt.mpr q67)] <;> rfl))
          | (have hk : x.toNatClampNeg = 1 + 1 := by first | (rw [q30]; decide) | (rw [q44]; decide) | exact hx3
             rw [if_pos hx, if_pos q23, hk]
             refine ⟨congrArg (fun v => some (Value.int v)) ?_, hr.lk (hFL.tr hF2) hV2⟩
             rw [Nat.add_sub_cancel, ← mR_min]
             show _ = nI (min _ 20000)
             first
             | (rw [← mn_k (by omega), if_pos (Int32.not_le.mp q67)] <;> rfl)
             | (rw [← mn_k (by omega), if_neg (Int32.not_lt.mpr q67)] <;> rfl))
          | (have hk : x.toNatClampNeg = 2 + 1 := by first | (rw [q30]; decide) | (rw [q44]; decide) | exact hx3
             rw [if_pos hx, if_pos q23, hk]
             refine ⟨congrArg (fun v => some (Value.int v)) ?_, hr.lk (hFL.tr hF3) hV3⟩
             rw [Nat.add_sub_cancel, ← mR_min]
             show _ = nI (min _ 20000)
             first
             | (rw [← mn_k (by omega), if_pos (Int32.not_le.mp q67)] <;> rfl)
             | (rw [← mn_k (by omega), if_neg (Int32.not_lt.mpr q67)] <;> rfl))
    · refine r_iconst (v := 0) 27 dX7_rows_26 rfl (by decide) ?_
      refine r_iret dX7_rows_27 rfl (by decide) (by decide) ?_
      rw [if_pos (of_decide_eq_true (ne_f q6)), if_neg q23]
      exact ⟨rfl, hr.lk hFL hV⟩
  · refine r_bipush (v := (-2)) 11 dX7_rows_9 rfl (by decide) ?_
    refine r_iret dX7_rows_11 rfl (by decide) (by decide) ?_
    rw [if_neg (of_decide_eq_false (bI_0.mp q6))]
    exact ⟨rfl, rfl⟩

set_option maxRecDepth 100000 in
theorem tX7_worth {Γ : CT} {w : PW} {f n : Nat → Int32} {mv jp : Int32} {cl lo : Nat → Int32} {ps : List T3} {cs mk qt oc : Int32} {P : List P3} {HM : List MG} {SM : Nat → Option MG} {pf : Nat → Int32} {pn : Nat} {x : Int32} (hr : isMD w ((f, n, mv, jp, cl, lo, ps, cs, mk, qt, oc), P) HM SM pf pn) (hI : GI ((f, n, mv, jp, cl, lo, ps, cs, mk, qt, oc), P)) : Cl Γ yX7_worth XX7_worth 9 0 0 [.ref 43, .int x] w (if 0 ≤ x ∧ x ≤ 2 then (if oc = 0 then rP (1000 + wB x.toNatClampNeg f n mv jp mv) (toMD w ((f, n, mv, jp, cl, lo, ps, cs, mk, qt, oc), P) HM SM pf pn) else rI (-5) w) else rI (-2) w) := by
  refine Cl.of (ls := [some (.ref 43), some (.int x)]) rfl (by decide +kernel) (fun h => by cases h) (Nat.le_of_ble_eq_true rfl) rfl ?_
  obtain ⟨hk, ⟨z, hz, hG⟩, W, hW⟩ := id hr
  obtain ⟨rm, sp, wr, pa, sl, sv, rd, ho, hpa, hH6, hpH, hsl, hsv, hpS, hpd, hpn, hrd⟩ := id hk
  have hA : zA z f mv oc cs cl mk jp lo qt P := hG.1
  have hP61 := hG.2
  obtain ⟨hok, hf, hnC, hsL, hjj, hjp, hpP, hPo, hclp, hcsp, hoc0⟩ := id hI
  have hf : okF f := hf
  have hnC : nC f n := hnC
  have hsL : sdL f := hsL
  have hjj : jjO f mv jp := hjj
  have hmv : mv = 0 ∨ mv = 1 := hok.1
  have hpP : ps = P.map t3p := hpP
  have hPo : ∀ p ∈ P, okp3 p := hPo
  refine r_iload_n 1 dX7_worth_0 rfl rfl ?_
  refine r_iconst (v := 0) 2 dX7_worth_1 rfl (by decide) ?_
  refine r_iconst (v := 2) 3 dX7_worth_2 rfl (by decide) ?_
  refine r_callS0 6 dX7_worth_3 rfl (tX7_in) l_X7_61 mX7_in rfl (by decide) (Nat.le_of_ble_eq_true rfl) (by decide) (qI ?_)
  refine r_if_ne 12 9 dX7_worth_6 (by decide) rfl (fun q6 => ?_) (fun q6 => ?_)
  · refine r_aload_n 13 dX7_worth_12 rfl rfl rfl ?_
    refine r_getf 16 dX7_worth_13 rfl f_X7_7.r (by repeat (first | assumption | refine gs_eq ?_ | refine gs_ne (by omega) ?_ | exact is_of (by assumption) | refine gs_is ?_)) rfl ?_
    refine r_bipush (v := 49) 18 dX7_worth_16 rfl (by decide) ?_
    refine r_iald 19 dX7_worth_18 rfl (49) (by repeat (first | assumption | refine gs_eq ?_ | refine gs_ne (by omega) ?_ | exact is_of (by assumption) | refine gs_is ?_)) rfl (by decide) (by decide) ?_
    rw [hA.2.2.1]
    refine r_if_eq 25 22 dX7_worth_19 (by decide) rfl (fun q19 => ?_) (fun q19 => ?_)
    · refine r_aload_n 26 dX7_worth_25 rfl rfl rfl ?_
      refine r_callV0 29 dX7_worth_26 rfl (tX7_look ho hz hA.F hW hf hmv hjj) l_X7_124 mX7_look rfl (by repeat (first | assumption | refine gs_eq ?_ | refine gs_ne (by omega) ?_ | exact is_of (by assumption) | refine gs_is ?_)) rfl (by decide) (Nat.le_of_ble_eq_true rfl) (by decide) (qN fun w1 h1 => ?_)
      obtain ⟨hFL, V, hV, hb, hsV, hc0, hl⟩ := id h1
      have oV := (hFL.2 43 (by unfold wS; omega)).trans ho
      have zV := (hFL.2 44 (by unfold wS; omega)).trans hz
      obtain ⟨v49, v50, v51, v52, v53, v54, v55, v56, v57⟩ := id hV
      have eh := hl.2.1
      have hl192 := hl.1
      have hoz : hopsN f mv jp oc = hopsC f mv jp := by unfold hopsN; rw [if_pos q19]
      rw [hoz] at hl eh hl192
      have hVa : atL V 0 f mv jp := ⟨hb, hsV, hc0⟩
      have hzf : zF z f mv jp 0 := ⟨hA.F.1, hA.F.2.1, hA.F.2.2.1, by rw [← q19]; exact hA.F.2.2.2⟩
      have hne := hoc0 q19
      have hne : ¬ (hopsC f mv jp).length = 0 := fun z => hne (List.eq_nil_of_length_eq_zero z)
      have hx := of_decide_eq_true (ne_f q6)
      refine r_sipush (v := 1000) 32 dX7_worth_29 rfl (by decide) ?_
      refine r_iload_n 33 dX7_worth_32 rfl rfl ?_
      refine r_if_ne 44 36 dX7_worth_33 (by decide) rfl (fun q33 => ?_) (fun q33 => ?_)
      · refine r_iload_n 45 dX7_worth_44 rfl rfl ?_
        refine r_iconst (v := 1) 46 dX7_worth_45 rfl (by decide) ?_
        refine r_icmp_ne 57 49 dX7_worth_46 (by decide) rfl (fun q46 => ?_) (fun q46 => ?_)
        · have hx3 : x.toNatClampNeg = 2 := by
            obtain ⟨k, h1, h3, e⟩ := x_in (a := 0) (b := 2) (by decide) (by decide) hx
            have k1 : k ≠ 0 := fun z => q33 (by rw [e, z]; rfl)
            have k2 : k ≠ 1 := fun z => q46 (by rw [e, z]; rfl)
            rw [e, nI_clamp (by omega)]
            omega
          refine r_aload_n 58 dX7_worth_57 rfl rfl rfl ?_
          refine r_callV0 61 dX7_worth_58 rfl (tX7_worthOfTwo oV zV hzf hV hf hmv hjj hnC hne) l_X7_195 mX7_worthOfTwo rfl (by repeat (first | assumption | refine gs_eq ?_ | refine gs_ne (by omega) ?_ | exact is_of (by assumption) | refine gs_is ?_)) rfl (by decide) (Nat.le_of_ble_eq_true rfl) (by decide) (qP fun w3 h3 => ?_)
          obtain ⟨hF3, V3, hV3⟩ := h3
          refine r_iadd 62 dX7_worth_61 rfl ?_
          refine r_iret dX7_worth_62 rfl (by decide) (by decide) ?_
          first
          | (have hk : x.toNatClampNeg = 0 := by first | (rw [q33]; decide) | (rw [q46]; decide) | exact hx3
             rw [if_pos hx, if_pos q19, hk]
             exact ⟨rfl, hr.lk hFL hV⟩)
          | (have hk : x.toNatClampNeg = 1 := by first | (rw [q33]; decide) | (rw [q46]; decide) | exact hx3
             rw [if_pos hx, if_pos q19, hk]
             exact ⟨rfl, hr.lk (hFL.tr hF2) hV2⟩)
          | (have hk : x.toNatClampNeg = 2 := by first | (rw [q33]; decide) | (rw [q46]; decide) | exact hx3
             rw [if_pos hx, if_pos q19, hk]
             exact ⟨rfl, hr.lk (hFL.tr hF3) hV3⟩)
        · refine r_aload_n 50 dX7_worth_49 rfl rfl rfl ?_
          refine r_iconst (v := nI 0) 51 dX7_worth_50 rfl (by decide) ?_
          refine r_callV0 54 dX7_worth_51 rfl (tX7_worthOfOne (L := 0) oV zV hA.2.1 hV hmv hVa (by decide) hf hnC hmv hjj) l_X7_192 mX7_worthOfOne rfl (by repeat (first | assumption | refine gs_eq ?_ | refine gs_ne (by omega) ?_ | exact is_of (by assumption) | refine gs_is ?_)) rfl (by decide) (Nat.le_of_ble_eq_true rfl) (by decide) (qP fun w2 h2 => ?_)
          obtain ⟨hF2, V2, hV2, -⟩ := h2
          refine r_goto 61 dX7_worth_54 (by decide) ?_
          refine r_iadd 62 dX7_worth_61 rfl ?_
          refine r_iret dX7_worth_62 rfl (by decide) (by decide) ?_
          first
          | (have hk : x.toNatClampNeg = 0 := by first | (rw [q33]; decide) | (rw [q46]; decide) | exact hx3
             rw [if_pos hx, if_pos q19, hk]
             exact ⟨rfl, hr.lk hFL hV⟩)
          | (have hk : x.toNatClampNeg = 1 := by first | (rw [q33]; decide) | (rw [q46]; decide) | exact hx3
             rw [if_pos hx, if_pos q19, hk]
             exact ⟨rfl, hr.lk (hFL.tr hF2) hV2⟩)
          | (have hk : x.toNatClampNeg = 2 := by first | (rw [q33]; decide) | (rw [q46]; decide) | exact hx3
             rw [if_pos hx, if_pos q19, hk]
             exact ⟨rfl, hr.lk (hFL.tr hF3) hV3⟩)
      · refine r_aload_n 37 dX7_worth_36 rfl rfl rfl ?_
        refine r_iconst (v := nI 0) 38 dX7_worth_37 rfl (by decide) ?_
        refine r_callV0 41 dX7_worth_38 rfl (tX7_worthNow (L := 0) oV zV hA.2.1 hV hmv hb (by decide) hf hnC) l_X7_183 mX7_worthNow rfl (by repeat (first | assumption | refine gs_eq ?_ | refine gs_ne (by omega) ?_ | exact is_of (by assumption) | refine gs_is ?_)) rfl (by decide) (Nat.le_of_ble_eq_true rfl) (by decide) (qI ?_)
        refine r_goto 61 dX7_worth_41 (by decide) ?_
        refine r_iadd 62 dX7_worth_61 rfl ?_
        refine r_iret dX7_worth_62 rfl (by decide) (by decide) ?_
        first
        | (have hk : x.toNatClampNeg = 0 := by first | (rw [q33]; decide) | (rw [q46]; decide) | exact hx3
           rw [if_pos hx, if_pos q19, hk]
           exact ⟨rfl, hr.lk hFL hV⟩)
        | (have hk : x.toNatClampNeg = 1 := by first | (rw [q33]; decide) | (rw [q46]; decide) | exact hx3
           rw [if_pos hx, if_pos q19, hk]
           exact ⟨rfl, hr.lk (hFL.tr hF2) hV2⟩)
        | (have hk : x.toNatClampNeg = 2 := by first | (rw [q33]; decide) | (rw [q46]; decide) | exact hx3
           rw [if_pos hx, if_pos q19, hk]
           exact ⟨rfl, hr.lk (hFL.tr hF3) hV3⟩)
    · refine r_bipush (v := (-5)) 24 dX7_worth_22 rfl (by decide) ?_
      refine r_iret dX7_worth_24 rfl (by decide) (by decide) ?_
      rw [if_pos (of_decide_eq_true (ne_f q6)), if_neg q19]
      exact ⟨rfl, rfl⟩
  · refine r_bipush (v := (-2)) 11 dX7_worth_9 rfl (by decide) ?_
    refine r_iret dX7_worth_11 rfl (by decide) (by decide) ?_
    rw [if_neg (of_decide_eq_false (bI_0.mp q6))]
    exact ⟨rfl, rfl⟩

set_option maxRecDepth 100000 in
theorem tX7_best1 {Γ : CT} {w : PW} {f n : Nat → Int32} {mv jp : Int32} {cl lo : Nat → Int32} {ps : List T3} {cs mk qt oc : Int32} {P : List P3} {HM : List MG} {SM : Nat → Option MG} {pf : Nat → Int32} {pn : Nat} (hr : isMD w ((f, n, mv, jp, cl, lo, ps, cs, mk, qt, oc), P) HM SM pf pn) (hI : GI ((f, n, mv, jp, cl, lo, ps, cs, mk, qt, oc), P)) : Cl Γ yX7_best XX7_best 9 0 0 [.ref 43, .int 1] w (if oc = 0 then rP (nI (btO (fun q => wB 0 (mkF f mv q) (mkN f n mv q) (mkM f mv q) (mkJ f mv q) mv) (hopsN f mv jp oc) 0 0 0)) (toMD w ((f, n, mv, jp, cl, lo, ps, cs, mk, qt, oc), P) HM SM pf pn) else rI (-5) w) := by
  refine Cl.of (ls := [some (.ref 43), some (.int 1), none, none, none, none, none]) rfl (by decide +kernel) (fun h => by cases h) (Nat.le_of_ble_eq_true rfl) rfl ?_
  obtain ⟨hk, ⟨z, hz, hG⟩, W, hW⟩ := id hr
  obtain ⟨rm, sp, wr, pa, sl, sv, rd, ho, hpa, hH6, hpH, hsl, hsv, hpS, hpd, hpn, hrd⟩ := id hk
  have hA : zA z f mv oc cs cl mk jp lo qt P := hG.1
  have hP61 := hG.2
  obtain ⟨hok, hf, hnC, hsL, hjj, hjp, hpP, hPo, hclp, hcsp, hoc0⟩ := id hI
  have hf : okF f := hf
  have hnC : nC f n := hnC
  have hsL : sdL f := hsL
  have hjj : jjO f mv jp := hjj
  have hmv : mv = 0 ∨ mv = 1 := hok.1
  have hpP : ps = P.map t3p := hpP
  have hPo : ∀ p ∈ P, okp3 p := hPo
  refine r_iload_n 1 dX7_best_0 rfl rfl ?_
  refine r_iconst (v := 1) 2 dX7_best_1 rfl (by decide) ?_
  refine r_iconst (v := 2) 3 dX7_best_2 rfl (by decide) ?_
  refine r_callS0 6 dX7_best_3 rfl (tX7_in) l_X7_61 mX7_in rfl (by decide) (Nat.le_of_ble_eq_true rfl) (by decide) (qI ?_)
  refine r_if_ne 12 9 dX7_best_6 (by decide) rfl (fun q6 => ?_) (fun q6 => absurd q6 (by decide))
  refine r_aload_n 13 dX7_best_12 rfl rfl rfl ?_
  refine r_getf 16 dX7_best_13 rfl f_X7_7.r (by repeat (first | assumption | refine gs_eq ?_ | refine gs_ne (by omega) ?_ | exact is_of (by assumption) | refine gs_is ?_)) rfl ?_
  refine r_bipush (v := 49) 18 dX7_best_16 rfl (by decide) ?_
  refine r_iald 19 dX7_best_18 rfl (49) (by repeat (first | assumption | refine gs_eq ?_ | refine gs_ne (by omega) ?_ | exact is_of (by assumption) | refine gs_is ?_)) rfl (by decide) (by decide) ?_
  rw [hA.2.2.1]
  refine r_if_eq 25 22 dX7_best_19 (by decide) rfl (fun q19 => ?_) (fun q19 => ?_)
  · refine r_aload_n 26 dX7_best_25 rfl rfl rfl ?_
    refine r_callV0 29 dX7_best_26 rfl (tX7_look ho hz hA.F hW hf hmv hjj) l_X7_124 mX7_look rfl (by repeat (first | assumption | refine gs_eq ?_ | refine gs_ne (by omega) ?_ | exact is_of (by assumption) | refine gs_is ?_)) rfl (by decide) (Nat.le_of_ble_eq_true rfl) (by decide) (qN fun w1 h1 => ?_)
    obtain ⟨hFL, V, hV, hb, hsV, hc0, hl⟩ := id h1
    have oV := (hFL.2 43 (by unfold wS; omega)).trans ho
    have zV := (hFL.2 44 (by unfold wS; omega)).trans hz
    obtain ⟨v49, v50, v51, v52, v53, v54, v55, v56, v57⟩ := id hV
    have eh := hl.2.1
    have hl192 := hl.1
    have hoz : hopsN f mv jp oc = hopsC f mv jp := by unfold hopsN; rw [if_pos q19]
    rw [hoz] at hl eh hl192
    have hVa : atL V 0 f mv jp := ⟨hb, hsV, hc0⟩
    have hzf : zF z f mv jp 0 := ⟨hA.F.1, hA.F.2.1, hA.F.2.2.1, by rw [← q19]; exact hA.F.2.2.2⟩
    have hne := hoc0 q19
    have hne : ¬ (hopsC f mv jp).length = 0 := fun z => hne (List.eq_nil_of_length_eq_zero z)
    rw [if_pos q19, hoz]
    have loop : ∀ (m i : Nat) (u : PW) (U : MW) (b : Nat) (bv gr : Int32) (x5 x6 : Option Value), i + m = (hopsC f mv jp).length → (Fr w u wS) → (isW u U) → (atL U 0 f mv jp) → (lsA U 0 (hopsC f mv jp)) → (btO (fun q => wB 0 (mkF f mv q) (mkN f n mv q) (mkM f mv q) (mkJ f mv q) mv) ((hopsC f mv jp).drop i) i b gr = btO (fun q => wB 0 (mkF f mv q) (mkN f n mv q) (mkM f mv q) (mkJ f mv q) mv) (hopsC f mv jp) 0 0 0) → (i = 0 → bv = -6) → (i ≠ 0 → bv = nI b ∧ b < 192) → (nl x5 = true) → (nl x6 = true) → Rn Γ XX7_best (rmO 9 0 0) none (FinM (rP (nI (btO (fun q => wB 0 (mkF f mv q) (mkN f n mv q) (mkM f mv q) (mkJ f mv q) mv) (hopsC f mv jp) 0 0 0)) (toMD w ((f, n, mv, jp, cl, lo, ps, cs, mk, qt, oc), P) HM SM pf pn)) 0 0) 0 0 u 37 [some (.ref 43), some (.int 1), some (.int bv), some (.int gr), some (.int (nI i)), x5, x6] [] := by
      intro m
      induction m with
      | zero =>
        intro i u U b bv gr x5 x6 hi hF hU hUa hUl hE hb0 hb1 e5 e6
        have oU := (hF.2 43 (by unfold wS; omega)).trans ho
        have zU := (hF.2 44 (by unfold wS; omega)).trans hz
        obtain ⟨u49, u50, u51, u52, u53, u54, u55, u56, u57⟩ := id hU
        have uh := hUl.2.1
        have ul192 := hUl.1
        have h9 : i = (hopsC f mv jp).length := by omega
        subst h9
        rw [List.drop_length] at hE
        refine r_iload 39 dX7_best_37 rfl rfl ?_
        refine r_aload_n 40 dX7_best_39 rfl rfl rfl ?_
        refine r_getf 43 dX7_best_40 rfl f_X7_36.r (by repeat (first | assumption | refine gs_eq ?_ | refine gs_ne (by omega) ?_ | exact is_of (by assumption) | refine gs_is ?_)) rfl ?_
        refine r_iconst (v := 0) 44 dX7_best_43 rfl (by decide) ?_
        refine r_iald 45 dX7_best_44 rfl (0) (by repeat (first | assumption | refine gs_eq ?_ | refine gs_ne (by omega) ?_ | exact is_of (by assumption) | refine gs_is ?_)) rfl (by omega) (by decide) ?_
        rw [uh]
        refine r_icmp_ge 124 48 dX7_best_45 (by decide) rfl (fun q45 => ?_) (fun q45 => absurd q45 (fun z => z (nI_le (by omega) (by omega))))
        refine r_iload_n 125 dX7_best_124 rfl rfl ?_
        refine r_iret dX7_best_125 rfl (by decide) (by decide) ?_
        rw [(hb1 hne).1]
        exact ⟨by rw [← hE]; rfl, hr.lk hF hU⟩
      | succ m ih =>
        intro i u U b bv gr x5 x6 hi hF hU hUa hUl hE hb0 hb1 e5 e6
        have oU := (hF.2 43 (by unfold wS; omega)).trans ho
        have zU := (hF.2 44 (by unfold wS; omega)).trans hz
        obtain ⟨u49, u50, u51, u52, u53, u54, u55, u56, u57⟩ := id hU
        have uh := hUl.2.1
        have ul192 := hUl.1
        obtain ⟨q, hq, hd⟩ := drop_c (l := hopsC f mv jp) (i := i) (by omega)
        have hgq := hopsC_go hmv (List.mem_of_getElem? hq)
        have fq := mkF_ok hgq hf
        have nq := nC_mk hgq hf hnC
        have mq := mkM_01 (f := f) (q := q) hmv
        have jq := mkJ_jj hgq hf
        refine r_iload 39 dX7_best_37 rfl rfl ?_
        refine r_aload_n 40 dX7_best_39 rfl rfl rfl ?_
        refine r_getf 43 dX7_best_40 rfl f_X7_36.r (by repeat (first | assumption | refine gs_eq ?_ | refine gs_ne (by omega) ?_ | exact is_of (by assumption) | refine gs_is ?_)) rfl ?_
        refine r_iconst (v := 0) 44 dX7_best_43 rfl (by decide) ?_
        refine r_iald 45 dX7_best_44 rfl (0) (by repeat (first | assumption | refine gs_eq ?_ | refine gs_ne (by omega) ?_ | exact is_of (by assumption) | refine gs_is ?_)) rfl (by omega) (by decide) ?_
        rw [uh]
        refine r_icmp_ge 124 48 dX7_best_45 (by decide) rfl (fun q45 => absurd q45 (nI_ge (by omega) (by omega))) (fun q45 => ?_)
        refine r_aload_n 49 dX7_best_48 rfl rfl rfl ?_
        refine r_iconst (v := nI 0) 50 dX7_best_49 rfl (by decide) ?_
        refine r_iload 52 dX7_best_50 rfl rfl ?_
        refine r_callV0 55 dX7_best_52 rfl (tX7_go (L := 0) oU hU hUa.1 hUl (by decide) hq hgq hf hUa.2.1 hmv) l_X7_152 mX7_go rfl (by repeat (first | assumption | refine gs_eq ?_ | refine gs_ne (by omega) ?_ | exact is_of (by assumption) | refine gs_is ?_)) rfl (by decide) (Nat.le_of_ble_eq_true rfl) (by decide) (qN fun w2 hgo => ?_)
        obtain ⟨hF2, U2, hU2, gb2, gs2, gc2, gm2⟩ := hgo
        have oU2 := (hF2.2 43 (by unfold wS; omega)).trans oU
        have zU2 := (hF2.2 44 (by unfold wS; omega)).trans zU
        obtain ⟨y49, y50, y51, y52, y53, y54, y55, y56, y57⟩ := id hU2
        have ha2 : atL U2 1 (mkF f mv q) (mkM f mv q) (mkJ f mv q) := ⟨gb2, gs2, gc2⟩
        have hUa2 := hUa.lo gm2 (Nat.lt_succ_self 0)
        have hUl2 := hUl.lo gm2.2.2 (Nat.lt_succ_self 0)
        refine r_iload_n 56 dX7_best_55 rfl rfl ?_
        refine r_iconst (v := 1) 57 dX7_best_56 rfl (by decide) ?_
        refine r_icmp_ne 68 60 dX7_best_57 (by decide) rfl (fun q57 => absurd q57 (fun z => z rfl)) (fun q57 => ?_)
        refine r_aload_n 61 dX7_best_60 rfl rfl rfl ?_
        refine r_iconst (v := nI 1) 62 dX7_best_61 rfl (by decide) ?_
        refine r_callV0 65 dX7_best_62 rfl (tX7_worthNow (L := 1) oU2 zU2 hA.2.1 hU2 hmv gb2 (by decide) fq nq) l_X7_183 mX7_worthNow rfl (by repeat (first | assumption | refine gs_eq ?_ | refine gs_ne (by omega) ?_ | exact is_of (by assumption) | refine gs_is ?_)) rfl (by decide) (Nat.le_of_ble_eq_true rfl) (by decide) (qI ?_)
        refine r_goto 73 dX7_best_65 (by decide) ?_
        have ew : wnO (mkN f n mv q) mv = wB 0 (mkF f mv q) (mkN f n mv q) (mkM f mv q) (mkJ f mv q) mv := rfl
        rw [ew]
        refine r_istore (ls1 := [_, _, _, _, _, _, _]) 75 dX7_best_73 rfl (by decide) rfl rfl ?_
        refine r_iload_n 76 dX7_best_75 rfl rfl ?_
        refine r_bipush (v := (-6)) 78 dX7_best_76 rfl (by decide) ?_
        refine r_icmp_eq 87 81 dX7_best_78 (by decide) rfl (fun q78 => ?_) (fun q78 => ?_)
        · refine r_iconst (v := 1) 88 dX7_best_87 rfl (by decide) ?_
          refine r_goto 92 dX7_best_88 (by decide) ?_
          refine r_istore (ls1 := [_, _, _, _, _, _, _]) 94 dX7_best_92 rfl (by decide) rfl rfl ?_
          refine r_iload 96 dX7_best_94 rfl rfl ?_
          refine r_if_eq 104 99 dX7_best_96 (by decide) rfl (fun q96 => absurd q96 (by decide)) (fun q96 => ?_)
          refine r_iload 101 dX7_best_99 rfl rfl ?_
          refine r_goto 105 dX7_best_101 (by decide) ?_
          refine r_istore_n (ls1 := [_, _, _, _, _, _, _]) 106 dX7_best_105 rfl (by decide) rfl rfl ?_
          refine r_iload 108 dX7_best_106 rfl rfl ?_
          refine r_if_eq 116 111 dX7_best_108 (by decide) rfl (fun q108 => absurd q108 (by decide)) (fun q108 => ?_)
          refine r_iload 113 dX7_best_111 rfl rfl ?_
          refine r_goto 117 dX7_best_113 (by decide) ?_
          refine r_istore_n (ls1 := [_, _, _, _, _, _, _]) 118 dX7_best_117 rfl (by decide) rfl rfl ?_
          refine r_iinc (ls1 := [_, _, _, _, _, _, _]) 121 dX7_best_118 rfl (by decide) rfl rfl (nI_1 i) rfl ?_
          refine r_goto 37 dX7_best_121 (by decide) ?_
          first
          | (have hi0 : i = 0 := by
               rcases Nat.eq_zero_or_pos i with h | h
               · exact h
               · exfalso
                 have h9 := hb1 (by omega)
                 rw [h9.1] at q78
                 exact nI_n6 (by omega) q78
             exact ih (i + 1) _ U2 i _ _ _ _ (by omega) (hF.tr hF2) hU2 hUa2 hUl2 (by rw [← hE, hd]; (conv => rhs; unfold btO); rw [if_pos (Or.inl hi0)]) (fun z => by omega) (fun _ => ⟨by first | rfl | exact (hb1 hi0).1, by first | omega | exact (hb1 hi0).2⟩) rfl rfl)
          | (have hi0 : i ≠ 0 := fun z => q78 (hb0 z)
             exact ih (i + 1) _ U2 i _ _ _ _ (by omega) (hF.tr hF2) hU2 hUa2 hUl2 (by rw [← hE, hd]; (conv => rhs; unfold btO); rw [if_pos (Or.inr (Int32.not_le.mp q84))]) (fun z => by omega) (fun _ => ⟨by first | rfl | exact (hb1 hi0).1, by first | omega | exact (hb1 hi0).2⟩) rfl rfl)
          | (have hi0 : i ≠ 0 := fun z => q78 (hb0 z)
             exact ih (i + 1) _ U2 b _ _ _ _ (by omega) (hF.tr hF2) hU2 hUa2 hUl2 (by rw [← hE, hd]; (conv => rhs; unfold btO); rw [if_neg (fun z => z.elim hi0 (Int32.not_lt.mpr q84))]) (fun z => by omega) (fun _ => ⟨by first | rfl | exact (hb1 hi0).1, by first | omega | exact (hb1 hi0).2⟩) rfl rfl)
        · refine r_iload 83 dX7_best_81 rfl rfl ?_
          refine r_iload_n 84 dX7_best_83 rfl rfl ?_
          refine r_icmp_le 91 87 dX7_best_84 (by decide) rfl (fun q84 => ?_) (fun q84 => ?_)
          · refine r_iconst (v := 0) 92 dX7_best_91 rfl (by decide) ?_
            refine r_istore (ls1 := [_, _, _, _, _, _, _]) 94 dX7_best_92 rfl (by decide) rfl rfl ?_
            refine r_iload 96 dX7_best_94 rfl rfl ?_
            refine r_if_eq 104 99 dX7_best_96 (by decide) rfl (fun q96 => ?_) (fun q96 => absurd q96 (by decide))
            refine r_iload_n 105 dX7_best_104 rfl rfl ?_
            refine r_istore_n (ls1 := [_, _, _, _, _, _, _]) 106 dX7_best_105 rfl (by decide) rfl rfl ?_
            refine r_iload 108 dX7_best_106 rfl rfl ?_
            refine r_if_eq 116 111 dX7_best_108 (by decide) rfl (fun q108 => ?_) (fun q108 => absurd q108 (by decide))
            refine r_iload_n 117 dX7_best_116 rfl rfl ?_
            refine r_istore_n (ls1 := [_, _, _, _, _, _, _]) 118 dX7_best_117 rfl (by decide) rfl rfl ?_
            refine r_iinc (ls1 := [_, _, _, _, _, _, _]) 121 dX7_best_118 rfl (by decide) rfl rfl (nI_1 i) rfl ?_
            refine r_goto 37 dX7_best_121 (by decide) ?_
            first
            | (have hi0 : i = 0 := by
                 rcases Nat.eq_zero_or_pos i with h | h
                 · exact h
                 · exfalso
                   have h9 := hb1 (by omega)
                   rw [h9.1] at q78
                   exact nI_n6 (by omega) q78
               exact ih (i + 1) _ U2 i _ _ _ _ (by omega) (hF.tr hF2) hU2 hUa2 hUl2 (by rw [← hE, hd]; (conv => rhs; unfold btO); rw [if_pos (Or.inl hi0)]) (fun z => by omega) (fun _ => ⟨by first | rfl | exact (hb1 hi0).1, by first | omega | exact (hb1 hi0).2⟩) rfl rfl)
            | (have hi0 : i ≠ 0 := fun z => q78 (hb0 z)
               exact ih (i + 1) _ U2 i _ _ _ _ (by omega) (hF.tr hF2) hU2 hUa2 hUl2 (by rw [← hE, hd]; (conv => rhs; unfold btO); rw [if_pos (Or.inr (Int32.not_le.mp q84))]) (fun z => by omega) (fun _ => ⟨by first | rfl | exact (hb1 hi0).1, by first | omega | exact (hb1 hi0).2⟩) rfl rfl)
            | (have hi0 : i ≠ 0 := fun z => q78 (hb0 z)
               exact ih (i + 1) _ U2 b _ _ _ _ (by omega) (hF.tr hF2) hU2 hUa2 hUl2 (by rw [← hE, hd]; (conv => rhs; unfold btO); rw [if_neg (fun z => z.elim hi0 (Int32.not_lt.mpr q84))]) (fun z => by omega) (fun _ => ⟨by first | rfl | exact (hb1 hi0).1, by first | omega | exact (hb1 hi0).2⟩) rfl rfl)
          · refine r_iconst (v := 1) 88 dX7_best_87 rfl (by decide) ?_
            refine r_goto 92 dX7_best_88 (by decide) ?_
            refine r_istore (ls1 := [_, _, _, _, _, _, _]) 94 dX7_best_92 rfl (by decide) rfl rfl ?_
            refine r_iload 96 dX7_best_94 rfl rfl ?_
            refine r_if_eq 104 99 dX7_best_96 (by decide) rfl (fun q96 => absurd q96 (by decide)) (fun q96 => ?_)
            refine r_iload 101 dX7_best_99 rfl rfl ?_
            refine r_goto 105 dX7_best_101 (by decide) ?_
            refine r_istore_n (ls1 := [_, _, _, _, _, _, _]) 106 dX7_best_105 rfl (by decide) rfl rfl ?_
            refine r_iload 108 dX7_best_106 rfl rfl ?_
            refine r_if_eq 116 111 dX7_best_108 (by decide) rfl (fun q108 => absurd q108 (by decide)) (fun q108 => ?_)
            refine r_iload 113 dX7_best_111 rfl rfl ?_
            refine r_goto 117 dX7_best_113 (by decide) ?_
            refine r_istore_n (ls1 := [_, _, _, _, _, _, _]) 118 dX7_best_117 rfl (by decide) rfl rfl ?_
            refine r_iinc (ls1 := [_, _, _, _, _, _, _]) 121 dX7_best_118 rfl (by decide) rfl rfl (nI_1 i) rfl ?_
            refine r_goto 37 dX7_best_121 (by decide) ?_
            first
            | (have hi0 : i = 0 := by
                 rcases Nat.eq_zero_or_pos i with h | h
                 · exact h
                 · exfalso
                   have h9 := hb1 (by omega)
                   rw [h9.1] at q78
                   exact nI_n6 (by omega) q78
               exact ih (i + 1) _ U2 i _ _ _ _ (by omega) (hF.tr hF2) hU2 hUa2 hUl2 (by rw [← hE, hd]; (conv => rhs; unfold btO); rw [if_pos (Or.inl hi0)]) (fun z => by omega) (fun _ => ⟨by first | rfl | exact (hb1 hi0).1, by first | omega | exact (hb1 hi0).2⟩) rfl rfl)
            | (have hi0 : i ≠ 0 := fun z => q78 (hb0 z)
               exact ih (i + 1) _ U2 i _ _ _ _ (by omega) (hF.tr hF2) hU2 hUa2 hUl2 (by rw [← hE, hd]; (conv => rhs; unfold btO); rw [if_pos (Or.inr (Int32.not_le.mp q84))]) (fun z => by omega) (fun _ => ⟨by first | rfl | exact (hb1 hi0).1, by first | omega | exact (hb1 hi0).2⟩) rfl rfl)
            | (have hi0 : i ≠ 0 := fun z => q78 (hb0 z)
               exact ih (i + 1) _ U2 b _ _ _ _ (by omega) (hF.tr hF2) hU2 hUa2 hUl2 (by rw [← hE, hd]; (conv => rhs; unfold btO); rw [if_neg (fun z => z.elim hi0 (Int32.not_lt.mpr q84))]) (fun z => by omega) (fun _ => ⟨by first | rfl | exact (hb1 hi0).1, by first | omega | exact (hb1 hi0).2⟩) rfl rfl)
    refine r_bipush (v := (-6)) 31 dX7_best_29 rfl (by decide) ?_
    refine r_istore_n (ls1 := [_, _, _, _, _, _, _]) 32 dX7_best_31 rfl (by decide) rfl rfl ?_
    refine r_iconst (v := 0) 33 dX7_best_32 rfl (by decide) ?_
    refine r_istore_n (ls1 := [_, _, _, _, _, _, _]) 34 dX7_best_33 rfl (by decide) rfl rfl ?_
    refine r_iconst (v := nI 0) 35 dX7_best_34 rfl (by decide) ?_
    refine r_istore (ls1 := [_, _, _, _, _, _, _]) 37 dX7_best_35 rfl (by decide) rfl rfl ?_
    exact loop (hopsC f mv jp).length 0 w1 V 0 (-6) 0 none none (by omega) hFL hV hVa hl rfl (fun _ => rfl) (fun z => absurd rfl z) rfl rfl
  · refine r_bipush (v := (-5)) 24 dX7_best_22 rfl (by decide) ?_
    refine r_iret dX7_best_24 rfl (by decide) (by decide) ?_
    rw [if_neg q19]
    exact ⟨rfl, rfl⟩

set_option maxRecDepth 100000 in
theorem tX7_best2 {Γ : CT} {w : PW} {f n : Nat → Int32} {mv jp : Int32} {cl lo : Nat → Int32} {ps : List T3} {cs mk qt oc : Int32} {P : List P3} {HM : List MG} {SM : Nat → Option MG} {pf : Nat → Int32} {pn : Nat} (hr : isMD w ((f, n, mv, jp, cl, lo, ps, cs, mk, qt, oc), P) HM SM pf pn) (hI : GI ((f, n, mv, jp, cl, lo, ps, cs, mk, qt, oc), P)) : Cl Γ yX7_best XX7_best 9 0 0 [.ref 43, .int 2] w (if oc = 0 then rP (nI (btO (fun q => wB 1 (mkF f mv q) (mkN f n mv q) (mkM f mv q) (mkJ f mv q) mv) (hopsN f mv jp oc) 0 0 0)) (toMD w ((f, n, mv, jp, cl, lo, ps, cs, mk, qt, oc), P) HM SM pf pn) else rI (-5) w) := by
  refine Cl.of (ls := [some (.ref 43), some (.int 2), none, none, none, none, none]) rfl (by decide +kernel) (fun h => by cases h) (Nat.le_of_ble_eq_true rfl) rfl ?_
  obtain ⟨hk, ⟨z, hz, hG⟩, W, hW⟩ := id hr
  obtain ⟨rm, sp, wr, pa, sl, sv, rd, ho, hpa, hH6, hpH, hsl, hsv, hpS, hpd, hpn, hrd⟩ := id hk
  have hA : zA z f mv oc cs cl mk jp lo qt P := hG.1
  have hP61 := hG.2
  obtain ⟨hok, hf, hnC, hsL, hjj, hjp, hpP, hPo, hclp, hcsp, hoc0⟩ := id hI
  have hf : okF f := hf
  have hnC : nC f n := hnC
  have hsL : sdL f := hsL
  have hjj : jjO f mv jp := hjj
  have hmv : mv = 0 ∨ mv = 1 := hok.1
  have hpP : ps = P.map t3p := hpP
  have hPo : ∀ p ∈ P, okp3 p := hPo
  refine r_iload_n 1 dX7_best_0 rfl rfl ?_
  refine r_iconst (v := 1) 2 dX7_best_1 rfl (by decide) ?_
  refine r_iconst (v := 2) 3 dX7_best_2 rfl (by decide) ?_
  refine r_callS0 6 dX7_best_3 rfl (tX7_in) l_X7_61 mX7_in rfl (by decide) (Nat.le_of_ble_eq_true rfl) (by decide) (qI ?_)
  refine r_if_ne 12 9 dX7_best_6 (by decide) rfl (fun q6 => ?_) (fun q6 => absurd q6 (by decide))
  refine r_aload_n 13 dX7_best_12 rfl rfl rfl ?_
  refine r_getf 16 dX7_best_13 rfl f_X7_7.r (by repeat (first | assumption | refine gs_eq ?_ | refine gs_ne (by omega) ?_ | exact is_of (by assumption) | refine gs_is ?_)) rfl ?_
  refine r_bipush (v := 49) 18 dX7_best_16 rfl (by decide) ?_
  refine r_iald 19 dX7_best_18 rfl (49) (by repeat (first | assumption | refine gs_eq ?_ | refine gs_ne (by omega) ?_ | exact is_of (by assumption) | refine gs_is ?_)) rfl (by decide) (by decide) ?_
  rw [hA.2.2.1]
  refine r_if_eq 25 22 dX7_best_19 (by decide) rfl (fun q19 => ?_) (fun q19 => ?_)
  · refine r_aload_n 26 dX7_best_25 rfl rfl rfl ?_
    refine r_callV0 29 dX7_best_26 rfl (tX7_look ho hz hA.F hW hf hmv hjj) l_X7_124 mX7_look rfl (by repeat (first | assumption | refine gs_eq ?_ | refine gs_ne (by omega) ?_ | exact is_of (by assumption) | refine gs_is ?_)) rfl (by decide) (Nat.le_of_ble_eq_true rfl) (by decide) (qN fun w1 h1 => ?_)
    obtain ⟨hFL, V, hV, hb, hsV, hc0, hl⟩ := id h1
    have oV := (hFL.2 43 (by unfold wS; omega)).trans ho
    have zV := (hFL.2 44 (by unfold wS; omega)).trans hz
    obtain ⟨v49, v50, v51, v52, v53, v54, v55, v56, v57⟩ := id hV
    have eh := hl.2.1
    have hl192 := hl.1
    have hoz : hopsN f mv jp oc = hopsC f mv jp := by unfold hopsN; rw [if_pos q19]
    rw [hoz] at hl eh hl192
    have hVa : atL V 0 f mv jp := ⟨hb, hsV, hc0⟩
    have hzf : zF z f mv jp 0 := ⟨hA.F.1, hA.F.2.1, hA.F.2.2.1, by rw [← q19]; exact hA.F.2.2.2⟩
    have hne := hoc0 q19
    have hne : ¬ (hopsC f mv jp).length = 0 := fun z => hne (List.eq_nil_of_length_eq_zero z)
    rw [if_pos q19, hoz]
    have loop : ∀ (m i : Nat) (u : PW) (U : MW) (b : Nat) (bv gr : Int32) (x5 x6 : Option Value), i + m = (hopsC f mv jp).length → (Fr w u wS) → (isW u U) → (atL U 0 f mv jp) → (lsA U 0 (hopsC f mv jp)) → (btO (fun q => wB 1 (mkF f mv q) (mkN f n mv q) (mkM f mv q) (mkJ f mv q) mv) ((hopsC f mv jp).drop i) i b gr = btO (fun q => wB 1 (mkF f mv q) (mkN f n mv q) (mkM f mv q) (mkJ f mv q) mv) (hopsC f mv jp) 0 0 0) → (i = 0 → bv = -6) → (i ≠ 0 → bv = nI b ∧ b < 192) → (nl x5 = true) → (nl x6 = true) → Rn Γ XX7_best (rmO 9 0 0) none (FinM (rP (nI (btO (fun q => wB 1 (mkF f mv q) (mkN f n mv q) (mkM f mv q) (mkJ f mv q) mv) (hopsC f mv jp) 0 0 0)) (toMD w ((f, n, mv, jp, cl, lo, ps, cs, mk, qt, oc), P) HM SM pf pn)) 0 0) 0 0 u 37 [some (.ref 43), some (.int 2), some (.int bv), some (.int gr), some (.int (nI i)), x5, x6] [] := by
      intro m
      induction m with
      | zero =>
        intro i u U b bv gr x5 x6 hi hF hU hUa hUl hE hb0 hb1 e5 e6
        have oU := (hF.2 43 (by unfold wS; omega)).trans ho
        have zU := (hF.2 44 (by unfold wS; omega)).trans hz
        obtain ⟨u49, u50, u51, u52, u53, u54, u55, u56, u57⟩ := id hU
        have uh := hUl.2.1
        have ul192 := hUl.1
        have h9 : i = (hopsC f mv jp).length := by omega
        subst h9
        rw [List.drop_length] at hE
        refine r_iload 39 dX7_best_37 rfl rfl ?_
        refine r_aload_n 40 dX7_best_39 rfl rfl rfl ?_
        refine r_getf 43 dX7_best_40 rfl f_X7_36.r (by repeat (first | assumption | refine gs_eq ?_ | refine gs_ne (by omega) ?_ | exact is_of (by assumption) | refine gs_is ?_)) rfl ?_
        refine r_iconst (v := 0) 44 dX7_best_43 rfl (by decide) ?_
        refine r_iald 45 dX7_best_44 rfl (0) (by repeat (first | assumption | refine gs_eq ?_ | refine gs_ne (by omega) ?_ | exact is_of (by assumption) | refine gs_is ?_)) rfl (by omega) (by decide) ?_
        rw [uh]
        refine r_icmp_ge 124 48 dX7_best_45 (by decide) rfl (fun q45 => ?_) (fun q45 => absurd q45 (fun z => z (nI_le (by omega) (by omega))))
        refine r_iload_n 125 dX7_best_124 rfl rfl ?_
        refine r_iret dX7_best_125 rfl (by decide) (by decide) ?_
        rw [(hb1 hne).1]
        exact ⟨by rw [← hE]; rfl, hr.lk hF hU⟩
      | succ m ih =>
        intro i u U b bv gr x5 x6 hi hF hU hUa hUl hE hb0 hb1 e5 e6
        have oU := (hF.2 43 (by unfold wS; omega)).trans ho
        have zU := (hF.2 44 (by unfold wS; omega)).trans hz
        obtain ⟨u49, u50, u51, u52, u53, u54, u55, u56, u57⟩ := id hU
        have uh := hUl.2.1
        have ul192 := hUl.1
        obtain ⟨q, hq, hd⟩ := drop_c (l := hopsC f mv jp) (i := i) (by omega)
        have hgq := hopsC_go hmv (List.mem_of_getElem? hq)
        have fq := mkF_ok hgq hf
        have nq := nC_mk hgq hf hnC
        have mq := mkM_01 (f := f) (q := q) hmv
        have jq := mkJ_jj hgq hf
        refine r_iload 39 dX7_best_37 rfl rfl ?_
        refine r_aload_n 40 dX7_best_39 rfl rfl rfl ?_
        refine r_getf 43 dX7_best_40 rfl f_X7_36.r (by repeat (first | assumption | refine gs_eq ?_ | refine gs_ne (by omega) ?_ | exact is_of (by assumption) | refine gs_is ?_)) rfl ?_
        refine r_iconst (v := 0) 44 dX7_best_43 rfl (by decide) ?_
        refine r_iald 45 dX7_best_44 rfl (0) (by repeat (first | assumption | refine gs_eq ?_ | refine gs_ne (by omega) ?_ | exact is_of (by assumption) | refine gs_is ?_)) rfl (by omega) (by decide) ?_
        rw [uh]
        refine r_icmp_ge 124 48 dX7_best_45 (by decide) rfl (fun q45 => absurd q45 (nI_ge (by omega) (by omega))) (fun q45 => ?_)
        refine r_aload_n 49 dX7_best_48 rfl rfl rfl ?_
        refine r_iconst (v := nI 0) 50 dX7_best_49 rfl (by decide) ?_
        refine r_iload 52 dX7_best_50 rfl rfl ?_
        refine r_callV0 55 dX7_best_52 rfl (tX7_go (L := 0) oU hU hUa.1 hUl (by decide) hq hgq hf hUa.2.1 hmv) l_X7_152 mX7_go rfl (by repeat (first | assumption | refine gs_eq ?_ | refine gs_ne (by omega) ?_ | exact is_of (by assumption) | refine gs_is ?_)) rfl (by decide) (Nat.le_of_ble_eq_true rfl) (by decide) (qN fun w2 hgo => ?_)
        obtain ⟨hF2, U2, hU2, gb2, gs2, gc2, gm2⟩ := hgo
        have oU2 := (hF2.2 43 (by unfold wS; omega)).trans oU
        have zU2 := (hF2.2 44 (by unfold wS; omega)).trans zU
        obtain ⟨y49, y50, y51, y52, y53, y54, y55, y56, y57⟩ := id hU2
        have ha2 : atL U2 1 (mkF f mv q) (mkM f mv q) (mkJ f mv q) := ⟨gb2, gs2, gc2⟩
        have hUa2 := hUa.lo gm2 (Nat.lt_succ_self 0)
        have hUl2 := hUl.lo gm2.2.2 (Nat.lt_succ_self 0)
        refine r_iload_n 56 dX7_best_55 rfl rfl ?_
        refine r_iconst (v := 1) 57 dX7_best_56 rfl (by decide) ?_
        refine r_icmp_ne 68 60 dX7_best_57 (by decide) rfl (fun q57 => ?_) (fun q57 => absurd q57 (by decide))
        refine r_aload_n 69 dX7_best_68 rfl rfl rfl ?_
        refine r_iconst (v := nI 1) 70 dX7_best_69 rfl (by decide) ?_
        refine r_callV0 73 dX7_best_70 rfl (tX7_worthOfOne (L := 1) oU2 zU2 hA.2.1 hU2 hmv ha2 (by decide) fq nq mq jq) l_X7_192 mX7_worthOfOne rfl (by repeat (first | assumption | refine gs_eq ?_ | refine gs_ne (by omega) ?_ | exact is_of (by assumption) | refine gs_is ?_)) rfl (by decide) (Nat.le_of_ble_eq_true rfl) (by decide) (qP fun w3 h3 => ?_)
        obtain ⟨hF3, U3, hU3, hs3⟩ := h3
        refine r_istore (ls1 := [_, _, _, _, _, _, _]) 75 dX7_best_73 rfl (by decide) rfl rfl ?_
        refine r_iload_n 76 dX7_best_75 rfl rfl ?_
        refine r_bipush (v := (-6)) 78 dX7_best_76 rfl (by decide) ?_
        refine r_icmp_eq 87 81 dX7_best_78 (by decide) rfl (fun q78 => ?_) (fun q78 => ?_)
        · refine r_iconst (v := 1) 88 dX7_best_87 rfl (by decide) ?_
          refine r_goto 92 dX7_best_88 (by decide) ?_
          refine r_istore (ls1 := [_, _, _, _, _, _, _]) 94 dX7_best_92 rfl (by decide) rfl rfl ?_
          refine r_iload 96 dX7_best_94 rfl rfl ?_
          refine r_if_eq 104 99 dX7_best_96 (by decide) rfl (fun q96 => absurd q96 (by decide)) (fun q96 => ?_)
          refine r_iload 101 dX7_best_99 rfl rfl ?_
          refine r_goto 105 dX7_best_101 (by decide) ?_
          refine r_istore_n (ls1 := [_, _, _, _, _, _, _]) 106 dX7_best_105 rfl (by decide) rfl rfl ?_
          refine r_iload 108 dX7_best_106 rfl rfl ?_
          refine r_if_eq 116 111 dX7_best_108 (by decide) rfl (fun q108 => absurd q108 (by decide)) (fun q108 => ?_)
          refine r_iload 113 dX7_best_111 rfl rfl ?_
          refine r_goto 117 dX7_best_113 (by decide) ?_
          refine r_istore_n (ls1 := [_, _, _, _, _, _, _]) 118 dX7_best_117 rfl (by decide) rfl rfl ?_
          refine r_iinc (ls1 := [_, _, _, _, _, _, _]) 121 dX7_best_118 rfl (by decide) rfl rfl (nI_1 i) rfl ?_
          refine r_goto 37 dX7_best_121 (by decide) ?_
          first
          | (have hi0 : i = 0 := by
               rcases Nat.eq_zero_or_pos i with h | h
               · exact h
               · exfalso
                 have h9 := hb1 (by omega)
                 rw [h9.1] at q78
                 exact nI_n6 (by omega) q78
             exact ih (i + 1) _ U3 i _ _ _ _ (by omega) ((hF.tr hF2).tr hF3) hU3 (hUa2.lo hs3 (by decide)) (hUl2.lo hs3.2.2 (by decide)) (by rw [← hE, hd]; (conv => rhs; unfold btO); rw [if_pos (Or.inl hi0)]) (fun z => by omega) (fun _ => ⟨by first | rfl | exact (hb1 hi0).1, by first | omega | exact (hb1 hi0).2⟩) rfl rfl)
          | (have hi0 : i ≠ 0 := fun z => q78 (hb0 z)
             exact ih (i + 1) _ U3 i _ _ _ _ (by omega) ((hF.tr hF2).tr hF3) hU3 (hUa2.lo hs3 (by decide)) (hUl2.lo hs3.2.2 (by decide)) (by rw [← hE, hd]; (conv => rhs; unfold btO); rw [if_pos (Or.inr (Int32.not_le.mp q84))]) (fun z => by omega) (fun _ => ⟨by first | rfl | exact (hb1 hi0).1, by first | omega | exact (hb1 hi0).2⟩) rfl rfl)
          | (have hi0 : i ≠ 0 := fun z => q78 (hb0 z)
             exact ih (i + 1) _ U3 b _ _ _ _ (by omega) ((hF.tr hF2).tr hF3) hU3 (hUa2.lo hs3 (by decide)) (hUl2.lo hs3.2.2 (by decide)) (by rw [← hE, hd]; (conv => rhs; unfold btO); rw [if_neg (fun z => z.elim hi0 (Int32.not_lt.mpr q84))]) (fun z => by omega) (fun _ => ⟨by first | rfl | exact (hb1 hi0).1, by first | omega | exact (hb1 hi0).2⟩) rfl rfl)
        · refine r_iload 83 dX7_best_81 rfl rfl ?_
          refine r_iload_n 84 dX7_best_83 rfl rfl ?_
          refine r_icmp_le 91 87 dX7_best_84 (by decide) rfl (fun q84 => ?_) (fun q84 => ?_)
          · refine r_iconst (v := 0) 92 dX7_best_91 rfl (by decide) ?_
            refine r_istore (ls1 := [_, _, _, _, _, _, _]) 94 dX7_best_92 rfl (by decide) rfl rfl ?_
            refine r_iload 96 dX7_best_94 rfl rfl ?_
            refine r_if_eq 104 99 dX7_best_96 (by decide) rfl (fun q96 => ?_) (fun q96 => absurd q96 (by decide))
            refine r_iload_n 105 dX7_best_104 rfl rfl ?_
            refine r_istore_n (ls1 := [_, _, _, _, _, _, _]) 106 dX7_best_105 rfl (by decide) rfl rfl ?_
            refine r_iload 108 dX7_best_106 rfl rfl ?_
            refine r_if_eq 116 111 dX7_best_108 (by decide) rfl (fun q108 => ?_) (fun q108 => absurd q108 (by decide))
            refine r_iload_n 117 dX7_best_116 rfl rfl ?_
            refine r_istore_n (ls1 := [_, _, _, _, _, _, _]) 118 dX7_best_117 rfl (by decide) rfl rfl ?_
            refine r_iinc (ls1 := [_, _, _, _, _, _, _]) 121 dX7_best_118 rfl (by decide) rfl rfl (nI_1 i) rfl ?_
            refine r_goto 37 dX7_best_121 (by decide) ?_
            first
            | (have hi0 : i = 0 := by
                 rcases Nat.eq_zero_or_pos i with h | h
                 · exact h
                 · exfalso
                   have h9 := hb1 (by omega)
                   rw [h9.1] at q78
                   exact nI_n6 (by omega) q78
               exact ih (i + 1) _ U3 i _ _ _ _ (by omega) ((hF.tr hF2).tr hF3) hU3 (hUa2.lo hs3 (by decide)) (hUl2.lo hs3.2.2 (by decide)) (by rw [← hE, hd]; (conv => rhs; unfold btO); rw [if_pos (Or.inl hi0)]) (fun z => by omega) (fun _ => ⟨by first | rfl | exact (hb1 hi0).1, by first | omega | exact (hb1 hi0).2⟩) rfl rfl)
            | (have hi0 : i ≠ 0 := fun z => q78 (hb0 z)
               exact ih (i + 1) _ U3 i _ _ _ _ (by omega) ((hF.tr hF2).tr hF3) hU3 (hUa2.lo hs3 (by decide)) (hUl2.lo hs3.2.2 (by decide)) (by rw [← hE, hd]; (conv => rhs; unfold btO); rw [if_pos (Or.inr (Int32.not_le.mp q84))]) (fun z => by omega) (fun _ => ⟨by first | rfl | exact (hb1 hi0).1, by first | omega | exact (hb1 hi0).2⟩) rfl rfl)
            | (have hi0 : i ≠ 0 := fun z => q78 (hb0 z)
               exact ih (i + 1) _ U3 b _ _ _ _ (by omega) ((hF.tr hF2).tr hF3) hU3 (hUa2.lo hs3 (by decide)) (hUl2.lo hs3.2.2 (by decide)) (by rw [← hE, hd]; (conv => rhs; unfold btO); rw [if_neg (fun z => z.elim hi0 (Int32.not_lt.mpr q84))]) (fun z => by omega) (fun _ => ⟨by first | rfl | exact (hb1 hi0).1, by first | omega | exact (hb1 hi0).2⟩) rfl rfl)
          · refine r_iconst (v := 1) 88 dX7_best_87 rfl (by decide) ?_
            refine r_goto 92 dX7_best_88 (by decide) ?_
            refine r_istore (ls1 := [_, _, _, _, _, _, _]) 94 dX7_best_92 rfl (by decide) rfl rfl ?_
            refine r_iload 96 dX7_best_94 rfl rfl ?_
            refine r_if_eq 104 99 dX7_best_96 (by decide) rfl (fun q96 => absurd q96 (by decide)) (fun q96 => ?_)
            refine r_iload 101 dX7_best_99 rfl rfl ?_
            refine r_goto 105 dX7_best_101 (by decide) ?_
            refine r_istore_n (ls1 := [_, _, _, _, _, _, _]) 106 dX7_best_105 rfl (by decide) rfl rfl ?_
            refine r_iload 108 dX7_best_106 rfl rfl ?_
            refine r_if_eq 116 111 dX7_best_108 (by decide) rfl (fun q108 => absurd q108 (by decide)) (fun q108 => ?_)
            refine r_iload 113 dX7_best_111 rfl rfl ?_
            refine r_goto 117 dX7_best_113 (by decide) ?_
            refine r_istore_n (ls1 := [_, _, _, _, _, _, _]) 118 dX7_best_117 rfl (by decide) rfl rfl ?_
            refine r_iinc (ls1 := [_, _, _, _, _, _, _]) 121 dX7_best_118 rfl (by decide) rfl rfl (nI_1 i) rfl ?_
            refine r_goto 37 dX7_best_121 (by decide) ?_
            first
            | (have hi0 : i = 0 := by
                 rcases Nat.eq_zero_or_pos i with h | h
                 · exact h
                 · exfalso
                   have h9 := hb1 (by omega)
                   rw [h9.1] at q78
                   exact nI_n6 (by omega) q78
               exact ih (i + 1) _ U3 i _ _ _ _ (by omega) ((hF.tr hF2).tr hF3) hU3 (hUa2.lo hs3 (by decide)) (hUl2.lo hs3.2.2 (by decide)) (by rw [← hE, hd]; (conv => rhs; unfold btO); rw [if_pos (Or.inl hi0)]) (fun z => by omega) (fun _ => ⟨by first | rfl | exact (hb1 hi0).1, by first | omega | exact (hb1 hi0).2⟩) rfl rfl)
            | (have hi0 : i ≠ 0 := fun z => q78 (hb0 z)
               exact ih (i + 1) _ U3 i _ _ _ _ (by omega) ((hF.tr hF2).tr hF3) hU3 (hUa2.lo hs3 (by decide)) (hUl2.lo hs3.2.2 (by decide)) (by rw [← hE, hd]; (conv => rhs; unfold btO); rw [if_pos (Or.inr (Int32.not_le.mp q84))]) (fun z => by omega) (fun _ => ⟨by first | rfl | exact (hb1 hi0).1, by first | omega | exact (hb1 hi0).2⟩) rfl rfl)
            | (have hi0 : i ≠ 0 := fun z => q78 (hb0 z)
               exact ih (i + 1) _ U3 b _ _ _ _ (by omega) ((hF.tr hF2).tr hF3) hU3 (hUa2.lo hs3 (by decide)) (hUl2.lo hs3.2.2 (by decide)) (by rw [← hE, hd]; (conv => rhs; unfold btO); rw [if_neg (fun z => z.elim hi0 (Int32.not_lt.mpr q84))]) (fun z => by omega) (fun _ => ⟨by first | rfl | exact (hb1 hi0).1, by first | omega | exact (hb1 hi0).2⟩) rfl rfl)
    refine r_bipush (v := (-6)) 31 dX7_best_29 rfl (by decide) ?_
    refine r_istore_n (ls1 := [_, _, _, _, _, _, _]) 32 dX7_best_31 rfl (by decide) rfl rfl ?_
    refine r_iconst (v := 0) 33 dX7_best_32 rfl (by decide) ?_
    refine r_istore_n (ls1 := [_, _, _, _, _, _, _]) 34 dX7_best_33 rfl (by decide) rfl rfl ?_
    refine r_iconst (v := nI 0) 35 dX7_best_34 rfl (by decide) ?_
    refine r_istore (ls1 := [_, _, _, _, _, _, _]) 37 dX7_best_35 rfl (by decide) rfl rfl ?_
    exact loop (hopsC f mv jp).length 0 w1 V 0 (-6) 0 none none (by omega) hFL hV hVa hl rfl (fun _ => rfl) (fun z => absurd rfl z) rfl rfl
  · refine r_bipush (v := (-5)) 24 dX7_best_22 rfl (by decide) ?_
    refine r_iret dX7_best_24 rfl (by decide) (by decide) ?_
    rw [if_neg q19]
    exact ⟨rfl, rfl⟩

set_option maxRecDepth 100000 in
theorem tX7_bestN {Γ : CT} {w : PW} {f n : Nat → Int32} {mv jp : Int32} {cl lo : Nat → Int32} {ps : List T3} {cs mk qt oc : Int32} {P : List P3} {HM : List MG} {SM : Nat → Option MG} {pf : Nat → Int32} {pn : Nat} {x : Int32} (hr : isMD w ((f, n, mv, jp, cl, lo, ps, cs, mk, qt, oc), P) HM SM pf pn) (hI : GI ((f, n, mv, jp, cl, lo, ps, cs, mk, qt, oc), P)) (hx : ¬ (1 ≤ x ∧ x ≤ 2)) : Cl Γ yX7_best XX7_best 9 0 0 [.ref 43, .int x] w (rI (-2) w) := by
  refine Cl.of (ls := [some (.ref 43), some (.int x), none, none, none, none, none]) rfl (by decide +kernel) (fun h => by cases h) (Nat.le_of_ble_eq_true rfl) rfl ?_
  obtain ⟨hk, ⟨z, hz, hG⟩, W, hW⟩ := id hr
  obtain ⟨rm, sp, wr, pa, sl, sv, rd, ho, hpa, hH6, hpH, hsl, hsv, hpS, hpd, hpn, hrd⟩ := id hk
  have hA : zA z f mv oc cs cl mk jp lo qt P := hG.1
  have hP61 := hG.2
  obtain ⟨hok, hf, hnC, hsL, hjj, hjp, hpP, hPo, hclp, hcsp, hoc0⟩ := id hI
  have hf : okF f := hf
  have hnC : nC f n := hnC
  have hsL : sdL f := hsL
  have hjj : jjO f mv jp := hjj
  have hmv : mv = 0 ∨ mv = 1 := hok.1
  have hpP : ps = P.map t3p := hpP
  have hPo : ∀ p ∈ P, okp3 p := hPo
  refine r_iload_n 1 dX7_best_0 rfl rfl ?_
  refine r_iconst (v := 1) 2 dX7_best_1 rfl (by decide) ?_
  refine r_iconst (v := 2) 3 dX7_best_2 rfl (by decide) ?_
  refine r_callS0 6 dX7_best_3 rfl (tX7_in) l_X7_61 mX7_in rfl (by decide) (Nat.le_of_ble_eq_true rfl) (by decide) (qI ?_)
  refine r_if_ne 12 9 dX7_best_6 (by decide) rfl (fun q6 => absurd q6 (by rw [show inI x 1 2 = false from decide_eq_false hx]; decide)) (fun q6 => ?_)
  refine r_bipush (v := (-2)) 11 dX7_best_9 rfl (by decide) ?_
  refine r_iret dX7_best_11 rfl (by decide) (by decide) ?_
  exact ⟨rfl, rfl⟩

theorem tX7_best {Γ : CT} {w : PW} {f n : Nat → Int32} {mv jp : Int32} {cl lo : Nat → Int32} {ps : List T3} {cs mk qt oc : Int32} {P : List P3} {HM : List MG} {SM : Nat → Option MG} {pf : Nat → Int32} {pn : Nat} {x : Int32} (hr : isMD w ((f, n, mv, jp, cl, lo, ps, cs, mk, qt, oc), P) HM SM pf pn) (hI : GI ((f, n, mv, jp, cl, lo, ps, cs, mk, qt, oc), P)) : Cl Γ yX7_best XX7_best 9 0 0 [.ref 43, .int x] w (if 1 ≤ x ∧ x ≤ 2 then (if oc = 0 then rP (nI (btO (fun q => wB (x.toNatClampNeg - 1) (mkF f mv q) (mkN f n mv q) (mkM f mv q) (mkJ f mv q) mv) (hopsN f mv jp oc) 0 0 0)) (toMD w ((f, n, mv, jp, cl, lo, ps, cs, mk, qt, oc), P) HM SM pf pn) else rI (-5) w) else rI (-2) w) := by
  by_cases hx : 1 ≤ x ∧ x ≤ 2
  · rw [if_pos hx]
    obtain ⟨k, h1, h2, e⟩ := x_in (a := 1) (b := 2) (by decide) (by decide) hx
    rcases (show k = 1 ∨ k = 2 by omega) with rfl | rfl
    · subst e
      exact tX7_best1 hr hI
    · subst e
      exact tX7_best2 hr hI
  · rw [if_neg hx]
    exact tX7_bestN hr hI hx
