/-! ===== the fault of the pad ===== -/
theorem st_dig {pl : Nat} {num c : Int32} (a : 48 ≤ c ∧ c ≤ 57) (b : ¬ (¬ (pl = 0 ∨ pl = 2) ∧ num = 0)) (d : inI ((if pl = 0 ∨ pl = 2 then 0 else num * 10) + (c - 48)) 0 47 = true) : stepF pl num c = some (if pl = 0 ∨ pl = 2 then pl + 1 else pl, (if pl = 0 ∨ pl = 2 then 0 else num * 10) + (c - 48)) := by
  rw [stepF, if_pos a, if_neg b, if_pos d]
theorem st_dig0 {pl : Nat} {num c : Int32} (a : 48 ≤ c ∧ c ≤ 57) (b : ¬ (pl = 0 ∨ pl = 2) ∧ num = 0) : stepF pl num c = none := by
  rw [stepF, if_pos a, if_pos b]
theorem st_dig1 {pl : Nat} {num c : Int32} (a : 48 ≤ c ∧ c ≤ 57) (d : inI ((if pl = 0 ∨ pl = 2 then 0 else num * 10) + (c - 48)) 0 47 = false) : stepF pl num c = none := by
  rw [stepF, if_pos a]
  split
  · rfl
  · rw [d]; rfl
theorem st_sep {pl : Nat} {num c : Int32} (a : ¬ (48 ≤ c ∧ c ≤ 57)) (b : pl = 1) (d : c = 45 ∨ c = 120) : stepF pl num c = some (2, num) := by
  rw [stepF, if_neg a, if_pos ⟨b, d⟩]
theorem st_com {pl : Nat} {num c : Int32} (a : ¬ (48 ≤ c ∧ c ≤ 57)) (b : pl = 3) (d : c = 44) : stepF pl num c = some (0, num) := by
  rw [stepF, if_neg a, if_neg (fun z => by have := z.1; omega), if_pos ⟨b, d⟩]
theorem st_bad {pl : Nat} {num c : Int32} (a : ¬ (48 ≤ c ∧ c ≤ 57)) (b : ¬ (pl = 1 ∧ (c = 45 ∨ c = 120))) (d : ¬ (pl = 3 ∧ c = 44)) : stepF pl num c = none := by
  rw [stepF, if_neg a, if_neg b, if_neg d]
set_option maxRecDepth 100000 in
theorem tX4_findFault {Γ : CT} {w : PW} {h : Nat} {pf : Nat → Int32} {pn : Nat} (hp : isPd w h pf pn) : Cl Γ yX4_findFault XX4_findFault 1 0 0 [.ref h] w (rI (ffO pf pn pn 0 0 0) w) := by
  obtain ⟨h0, h1, h2, h3⟩ := id hp
  have loop : ∀ (m i pl : Nat) (num : Int32) (x4 x5 : Option Value), i + m = pn → pl ≤ 3 → ffO pf pn m i pl num = ffO pf pn pn 0 0 0 → nl x4 = true → nl x5 = true → Rn Γ XX4_findFault (rmO 1 0 0) none (FinM (rI (ffO pf pn pn 0 0 0) w) 0 0) 0 0 w 6 [some (.ref h), some (.int (nI pl)), some (.int num), some (.int (nI i)), x4, x5] [] := by
    intro m
    induction m with
    | zero =>
      intro i pl num x4 x5 hi hpl hu e4 e5
      have h9 : i = pn := by omega
      subst h9
      refine r_iload_n 7 dX4_findFault_6 rfl rfl ?_
      refine r_aload_n 8 dX4_findFault_7 rfl rfl rfl ?_
      refine r_getf 11 dX4_findFault_8 rfl f_X4_15.r (by repeat (first | assumption | exact isPd.o (by assumption) | refine gs_eq ?_ | refine gs_ne (by omega) ?_ | exact is_of (by assumption) | refine gs_is ?_)) rfl ?_
      refine r_icmp_ge 151 14 dX4_findFault_11 (by decide) rfl (fun q11 => ?_) (fun q11 => absurd q11 (fun z => z (nI_le (by omega) (by omega))))
      refine r_iload_n 152 dX4_findFault_151 rfl rfl ?_
      refine r_iconst (v := nI 3) 153 dX4_findFault_152 rfl (by decide) ?_
      refine r_icmp_ne 161 156 dX4_findFault_153 (by decide) rfl (fun q153 => ?_) (fun q153 => ?_)
      · refine r_aload_n 162 dX4_findFault_161 rfl rfl rfl ?_
        refine r_getf 165 dX4_findFault_162 rfl f_X4_15.r (by repeat (first | assumption | exact isPd.o (by assumption) | refine gs_eq ?_ | refine gs_ne (by omega) ?_ | exact is_of (by assumption) | refine gs_is ?_)) rfl ?_
        refine r_iret dX4_findFault_165 rfl (by decide) (by decide) ?_
        first | exact ⟨by rw [← hu, ffO, if_pos ((nI_eq (by omega) (by decide)).mp q153)], rfl⟩ | exact ⟨by rw [← hu, ffO, if_neg (fun z => q153 (by rw [z]))], rfl⟩
      · refine r_bipush (v := (-6)) 158 dX4_findFault_156 rfl (by decide) ?_
        refine r_goto 165 dX4_findFault_158 (by decide) ?_
        refine r_iret dX4_findFault_165 rfl (by decide) (by decide) ?_
        first | exact ⟨by rw [← hu, ffO, if_pos ((nI_eq (by omega) (by decide)).mp q153)], rfl⟩ | exact ⟨by rw [← hu, ffO, if_neg (fun z => q153 (by rw [z]))], rfl⟩
    | succ m ih =>
      intro i pl num x4 x5 hi hpl hu e4 e5
      rw [ffO] at hu
      refine r_iload_n 7 dX4_findFault_6 rfl rfl ?_
      refine r_aload_n 8 dX4_findFault_7 rfl rfl rfl ?_
      refine r_getf 11 dX4_findFault_8 rfl f_X4_15.r (by repeat (first | assumption | exact isPd.o (by assumption) | refine gs_eq ?_ | refine gs_ne (by omega) ?_ | exact is_of (by assumption) | refine gs_is ?_)) rfl ?_
      refine r_icmp_ge 151 14 dX4_findFault_11 (by decide) rfl (fun q11 => absurd q11 (nI_ge (by omega) (by omega))) (fun q11 => ?_)
      refine r_aload_n 15 dX4_findFault_14 rfl rfl rfl ?_
      refine r_iload_n 16 dX4_findFault_15 rfl rfl ?_
      refine r_callV0 19 dX4_findFault_16 rfl (tX4_signAt hp (by omega)) l_X4_25 mX4_signAt rfl (by repeat (first | assumption | exact isPd.o (by assumption) | refine gs_eq ?_ | refine gs_ne (by omega) ?_ | exact is_of (by assumption) | refine gs_is ?_)) rfl (by decide) (Nat.le_of_ble_eq_true rfl) (by decide) (qI ?_)
      rw [show sgO pf pn i = pf i from by rw [sgO, if_pos (by omega)]]
      refine r_istore (ls1 := [_, _, _, _, _, _]) 21 dX4_findFault_19 rfl (by decide) rfl rfl ?_
      refine r_iload 23 dX4_findFault_21 rfl rfl ?_
      refine r_bipush (v := 48) 25 dX4_findFault_23 rfl (by decide) ?_
      refine r_icmp_lt 102 28 dX4_findFault_25 (by decide) rfl (fun q25 => ?_) (fun q25 => ?_)
      · refine r_iload_n 103 dX4_findFault_102 rfl rfl ?_
        refine r_iconst (v := nI 1) 104 dX4_findFault_103 rfl (by decide) ?_
        refine r_icmp_ne 126 107 dX4_findFault_104 (by decide) rfl (fun q104 => ?_) (fun q104 => ?_)
        · refine r_iload_n 127 dX4_findFault_126 rfl rfl ?_
          refine r_iconst (v := nI 3) 128 dX4_findFault_127 rfl (by decide) ?_
          refine r_icmp_ne 143 131 dX4_findFault_128 (by decide) rfl (fun q128 => ?_) (fun q128 => ?_)
          · refine r_iload_n 144 dX4_findFault_143 rfl rfl ?_
            refine r_iret dX4_findFault_144 rfl (by decide) (by decide) ?_
            first
              | exact ⟨by rw [st_bad (by first | exact (fun z => Int32.not_lt.mpr z.1 q25) | exact (fun z => Int32.not_lt.mpr z.2 q32)) (fun z => q104 (by rw [z.1])) (fun z => q128 (by rw [z.1]))] at hu; rw [← hu], rfl⟩
              | exact ⟨by rw [st_bad (by first | exact (fun z => Int32.not_lt.mpr z.1 q25) | exact (fun z => Int32.not_lt.mpr z.2 q32)) (fun z => q104 (by rw [z.1])) (fun z => q135 z.2)] at hu; rw [← hu], rfl⟩
              | exact ⟨by rw [st_bad (by first | exact (fun z => Int32.not_lt.mpr z.1 q25) | exact (fun z => Int32.not_lt.mpr z.2 q32)) (fun z => z.2.elim q111 q118) (fun z => q128 (by rw [z.1]))] at hu; rw [← hu], rfl⟩
              | exact ⟨by rw [st_bad (by first | exact (fun z => Int32.not_lt.mpr z.1 q25) | exact (fun z => Int32.not_lt.mpr z.2 q32)) (fun z => z.2.elim q111 q118) (fun z => q135 z.2)] at hu; rw [← hu], rfl⟩
          · refine r_iload 133 dX4_findFault_131 rfl rfl ?_
            refine r_bipush (v := 44) 135 dX4_findFault_133 rfl (by decide) ?_
            refine r_icmp_ne 143 138 dX4_findFault_135 (by decide) rfl (fun q135 => ?_) (fun q135 => ?_)
            · refine r_iload_n 144 dX4_findFault_143 rfl rfl ?_
              refine r_iret dX4_findFault_144 rfl (by decide) (by decide) ?_
              first
                | exact ⟨by rw [st_bad (by first | exact (fun z => Int32.not_lt.mpr z.1 q25) | exact (fun z => Int32.not_lt.mpr z.2 q32)) (fun z => q104 (by rw [z.1])) (fun z => q128 (by rw [z.1]))] at hu; rw [← hu], rfl⟩
                | exact ⟨by rw [st_bad (by first | exact (fun z => Int32.not_lt.mpr z.1 q25) | exact (fun z => Int32.not_lt.mpr z.2 q32)) (fun z => q104 (by rw [z.1])) (fun z => q135 z.2)] at hu; rw [← hu], rfl⟩
                | exact ⟨by rw [st_bad (by first | exact (fun z => Int32.not_lt.mpr z.1 q25) | exact (fun z => Int32.not_lt.mpr z.2 q32)) (fun z => z.2.elim q111 q118) (fun z => q128 (by rw [z.1]))] at hu; rw [← hu], rfl⟩
                | exact ⟨by rw [st_bad (by first | exact (fun z => Int32.not_lt.mpr z.1 q25) | exact (fun z => Int32.not_lt.mpr z.2 q32)) (fun z => z.2.elim q111 q118) (fun z => q135 z.2)] at hu; rw [← hu], rfl⟩
            · refine r_iconst (v := nI 0) 139 dX4_findFault_138 rfl (by decide) ?_
              refine r_istore_n (ls1 := [_, _, _, _, _, _]) 140 dX4_findFault_139 rfl (by decide) rfl rfl ?_
              refine r_goto 145 dX4_findFault_140 (by decide) ?_
              refine r_iinc (ls1 := [_, _, _, _, _, _]) 148 dX4_findFault_145 rfl (by decide) rfl rfl (nI_1 i) rfl ?_
              refine r_goto 6 dX4_findFault_148 (by decide) ?_
              first
                | (rw [st_dig ⟨Int32.not_lt.mp q25, Int32.not_lt.mp q32⟩ (by first | exact (fun z => z.1 hf) | exact (fun z => q57 z.2)) (ne_f q86)] at hu
                   first
                   | (rw [if_pos hf] at hu
                      exact ih (i + 1) _ _ _ _ (by omega) (by omega) hu (by first | rfl | assumption) (by first | rfl | assumption))
                   | (rw [if_neg hf] at hu
                      exact ih (i + 1) _ _ _ _ (by omega) (by omega) hu (by first | rfl | assumption) (by first | rfl | assumption)))
                | (rw [st_sep (by first | exact (fun z => Int32.not_lt.mpr z.1 q25) | exact (fun z => Int32.not_lt.mpr z.2 q32)) ((nI_eq (by omega) (by decide)).mp q104) (by first | exact Or.inl q111 | exact Or.inr q118)] at hu
                   exact ih (i + 1) 2 _ _ _ (by omega) (by omega) hu (by first | rfl | assumption) (by first | rfl | assumption))
                | (rw [st_com (by first | exact (fun z => Int32.not_lt.mpr z.1 q25) | exact (fun z => Int32.not_lt.mpr z.2 q32)) ((nI_eq (by omega) (by decide)).mp q128) q135] at hu
                   exact ih (i + 1) 0 _ _ _ (by omega) (by omega) hu (by first | rfl | assumption) (by first | rfl | assumption))
        · refine r_iload 109 dX4_findFault_107 rfl rfl ?_
          refine r_bipush (v := 45) 111 dX4_findFault_109 rfl (by decide) ?_
          refine r_icmp_eq 121 114 dX4_findFault_111 (by decide) rfl (fun q111 => ?_) (fun q111 => ?_)
          · refine r_iconst (v := nI 2) 122 dX4_findFault_121 rfl (by decide) ?_
            refine r_istore_n (ls1 := [_, _, _, _, _, _]) 123 dX4_findFault_122 rfl (by decide) rfl rfl ?_
            refine r_goto 145 dX4_findFault_123 (by decide) ?_
            refine r_iinc (ls1 := [_, _, _, _, _, _]) 148 dX4_findFault_145 rfl (by decide) rfl rfl (nI_1 i) rfl ?_
            refine r_goto 6 dX4_findFault_148 (by decide) ?_
            first
              | (rw [st_dig ⟨Int32.not_lt.mp q25, Int32.not_lt.mp q32⟩ (by first | exact (fun z => z.1 hf) | exact (fun z => q57 z.2)) (ne_f q86)] at hu
                 first
                 | (rw [if_pos hf] at hu
                    exact ih (i + 1) _ _ _ _ (by omega) (by omega) hu (by first | rfl | assumption) (by first | rfl | assumption))
                 | (rw [if_neg hf] at hu
                    exact ih (i + 1) _ _ _ _ (by omega) (by omega) hu (by first | rfl | assumption) (by first | rfl | assumption)))
              | (rw [st_sep (by first | exact (fun z => Int32.not_lt.mpr z.1 q25) | exact (fun z => Int32.not_lt.mpr z.2 q32)) ((nI_eq (by omega) (by decide)).mp q104) (by first | exact Or.inl q111 | exact Or.inr q118)] at hu
                 exact ih (i + 1) 2 _ _ _ (by omega) (by omega) hu (by first | rfl | assumption) (by first | rfl | assumption))
              | (rw [st_com (by first | exact (fun z => Int32.not_lt.mpr z.1 q25) | exact (fun z => Int32.not_lt.mpr z.2 q32)) ((nI_eq (by omega) (by decide)).mp q128) q135] at hu
                 exact ih (i + 1) 0 _ _ _ (by omega) (by omega) hu (by first | rfl | assumption) (by first | rfl | assumption))
          · refine r_iload 116 dX4_findFault_114 rfl rfl ?_
            refine r_bipush (v := 120) 118 dX4_findFault_116 rfl (by decide) ?_
            refine r_icmp_ne 126 121 dX4_findFault_118 (by decide) rfl (fun q118 => ?_) (fun q118 => ?_)
            · refine r_iload_n 127 dX4_findFault_126 rfl rfl ?_
              refine r_iconst (v := nI 3) 128 dX4_findFault_127 rfl (by decide) ?_
              refine r_icmp_ne 143 131 dX4_findFault_128 (by decide) rfl (fun q128 => ?_) (fun q128 => ?_)
              · refine r_iload_n 144 dX4_findFault_143 rfl rfl ?_
                refine r_iret dX4_findFault_144 rfl (by decide) (by decide) ?_
                first
                  | exact ⟨by rw [st_bad (by first | exact (fun z => Int32.not_lt.mpr z.1 q25) | exact (fun z => Int32.not_lt.mpr z.2 q32)) (fun z => q104 (by rw [z.1])) (fun z => q128 (by rw [z.1]))] at hu; rw [← hu], rfl⟩
                  | exact ⟨by rw [st_bad (by first | exact (fun z => Int32.not_lt.mpr z.1 q25) | exact (fun z => Int32.not_lt.mpr z.2 q32)) (fun z => q104 (by rw [z.1])) (fun z => q135 z.2)] at hu; rw [← hu], rfl⟩
                  | exact ⟨by rw [st_bad (by first | exact (fun z => Int32.not_lt.mpr z.1 q25) | exact (fun z => Int32.not_lt.mpr z.2 q32)) (fun z => z.2.elim q111 q118) (fun z => q128 (by rw [z.1]))] at hu; rw [← hu], rfl⟩
                  | exact ⟨by rw [st_bad (by first | exact (fun z => Int32.not_lt.mpr z.1 q25) | exact (fun z => Int32.not_lt.mpr z.2 q32)) (fun z => z.2.elim q111 q118) (fun z => q135 z.2)] at hu; rw [← hu], rfl⟩
              · refine r_iload 133 dX4_findFault_131 rfl rfl ?_
                refine r_bipush (v := 44) 135 dX4_findFault_133 rfl (by decide) ?_
                refine r_icmp_ne 143 138 dX4_findFault_135 (by decide) rfl (fun q135 => ?_) (fun q135 => ?_)
                · refine r_iload_n 144 dX4_findFault_143 rfl rfl ?_
                  refine r_iret dX4_findFault_144 rfl (by decide) (by decide) ?_
                  first
                    | exact ⟨by rw [st_bad (by first | exact (fun z => Int32.not_lt.mpr z.1 q25) | exact (fun z => Int32.not_lt.mpr z.2 q32)) (fun z => q104 (by rw [z.1])) (fun z => q128 (by rw [z.1]))] at hu; rw [← hu], rfl⟩
                    | exact ⟨by rw [st_bad (by first | exact (fun z => Int32.not_lt.mpr z.1 q25) | exact (fun z => Int32.not_lt.mpr z.2 q32)) (fun z => q104 (by rw [z.1])) (fun z => q135 z.2)] at hu; rw [← hu], rfl⟩
                    | exact ⟨by rw [st_bad (by first | exact (fun z => Int32.not_lt.mpr z.1 q25) | exact (fun z => Int32.not_lt.mpr z.2 q32)) (fun z => z.2.elim q111 q118) (fun z => q128 (by rw [z.1]))] at hu; rw [← hu], rfl⟩
                    | exact ⟨by rw [st_bad (by first | exact (fun z => Int32.not_lt.mpr z.1 q25) | exact (fun z => Int32.not_lt.mpr z.2 q32)) (fun z => z.2.elim q111 q118) (fun z => q135 z.2)] at hu; rw [← hu], rfl⟩
                · refine r_iconst (v := nI 0) 139 dX4_findFault_138 rfl (by decide) ?_
                  refine r_istore_n (ls1 := [_, _, _, _, _, _]) 140 dX4_findFault_139 rfl (by decide) rfl rfl ?_
                  refine r_goto 145 dX4_findFault_140 (by decide) ?_
                  refine r_iinc (ls1 := [_, _, _, _, _, _]) 148 dX4_findFault_145 rfl (by decide) rfl rfl (nI_1 i) rfl ?_
                  refine r_goto 6 dX4_findFault_148 (by decide) ?_
                  first
                    | (rw [st_dig ⟨Int32.not_lt.mp q25, Int32.not_lt.mp q32⟩ (by first | exact (fun z => z.1 hf) | exact (fun z => q57 z.2)) (ne_f q86)] at hu
                       first
                       | (rw [if_pos hf] at hu
                          exact ih (i + 1) _ _ _ _ (by omega) (by omega) hu (by first | rfl | assumption) (by first | rfl | assumption))
                       | (rw [if_neg hf] at hu
                          exact ih (i + 1) _ _ _ _ (by omega) (by omega) hu (by first | rfl | assumption) (by first | rfl | assumption)))
                    | (rw [st_sep (by first | exact (fun z => Int32.not_lt.mpr z.1 q25) | exact (fun z => Int32.not_lt.mpr z.2 q32)) ((nI_eq (by omega) (by decide)).mp q104) (by first | exact Or.inl q111 | exact Or.inr q118)] at hu
                       exact ih (i + 1) 2 _ _ _ (by omega) (by omega) hu (by first | rfl | assumption) (by first | rfl | assumption))
                    | (rw [st_com (by first | exact (fun z => Int32.not_lt.mpr z.1 q25) | exact (fun z => Int32.not_lt.mpr z.2 q32)) ((nI_eq (by omega) (by decide)).mp q128) q135] at hu
                       exact ih (i + 1) 0 _ _ _ (by omega) (by omega) hu (by first | rfl | assumption) (by first | rfl | assumption))
            · refine r_iconst (v := nI 2) 122 dX4_findFault_121 rfl (by decide) ?_
              refine r_istore_n (ls1 := [_, _, _, _, _, _]) 123 dX4_findFault_122 rfl (by decide) rfl rfl ?_
              refine r_goto 145 dX4_findFault_123 (by decide) ?_
              refine r_iinc (ls1 := [_, _, _, _, _, _]) 148 dX4_findFault_145 rfl (by decide) rfl rfl (nI_1 i) rfl ?_
              refine r_goto 6 dX4_findFault_148 (by decide) ?_
              first
                | (rw [st_dig ⟨Int32.not_lt.mp q25, Int32.not_lt.mp q32⟩ (by first | exact (fun z => z.1 hf) | exact (fun z => q57 z.2)) (ne_f q86)] at hu
                   first
                   | (rw [if_pos hf] at hu
                      exact ih (i + 1) _ _ _ _ (by omega) (by omega) hu (by first | rfl | assumption) (by first | rfl | assumption))
                   | (rw [if_neg hf] at hu
                      exact ih (i + 1) _ _ _ _ (by omega) (by omega) hu (by first | rfl | assumption) (by first | rfl | assumption)))
                | (rw [st_sep (by first | exact (fun z => Int32.not_lt.mpr z.1 q25) | exact (fun z => Int32.not_lt.mpr z.2 q32)) ((nI_eq (by omega) (by decide)).mp q104) (by first | exact Or.inl q111 | exact Or.inr q118)] at hu
                   exact ih (i + 1) 2 _ _ _ (by omega) (by omega) hu (by first | rfl | assumption) (by first | rfl | assumption))
                | (rw [st_com (by first | exact (fun z => Int32.not_lt.mpr z.1 q25) | exact (fun z => Int32.not_lt.mpr z.2 q32)) ((nI_eq (by omega) (by decide)).mp q128) q135] at hu
                   exact ih (i + 1) 0 _ _ _ (by omega) (by omega) hu (by first | rfl | assumption) (by first | rfl | assumption))
      · refine r_iload 30 dX4_findFault_28 rfl rfl ?_
        refine r_bipush (v := 57) 32 dX4_findFault_30 rfl (by decide) ?_
        refine r_icmp_gt 102 35 dX4_findFault_32 (by decide) rfl (fun q32 => ?_) (fun q32 => ?_)
        · refine r_iload_n 103 dX4_findFault_102 rfl rfl ?_
          refine r_iconst (v := nI 1) 104 dX4_findFault_103 rfl (by decide) ?_
          refine r_icmp_ne 126 107 dX4_findFault_104 (by decide) rfl (fun q104 => ?_) (fun q104 => ?_)
          · refine r_iload_n 127 dX4_findFault_126 rfl rfl ?_
            refine r_iconst (v := nI 3) 128 dX4_findFault_127 rfl (by decide) ?_
            refine r_icmp_ne 143 131 dX4_findFault_128 (by decide) rfl (fun q128 => ?_) (fun q128 => ?_)
            · refine r_iload_n 144 dX4_findFault_143 rfl rfl ?_
              refine r_iret dX4_findFault_144 rfl (by decide) (by decide) ?_
              first
                | exact ⟨by rw [st_bad (by first | exact (fun z => Int32.not_lt.mpr z.1 q25) | exact (fun z => Int32.not_lt.mpr z.2 q32)) (fun z => q104 (by rw [z.1])) (fun z => q128 (by rw [z.1]))] at hu; rw [← hu], rfl⟩
                | exact ⟨by rw [st_bad (by first | exact (fun z => Int32.not_lt.mpr z.1 q25) | exact (fun z => Int32.not_lt.mpr z.2 q32)) (fun z => q104 (by rw [z.1])) (fun z => q135 z.2)] at hu; rw [← hu], rfl⟩
                | exact ⟨by rw [st_bad (by first | exact (fun z => Int32.not_lt.mpr z.1 q25) | exact (fun z => Int32.not_lt.mpr z.2 q32)) (fun z => z.2.elim q111 q118) (fun z => q128 (by rw [z.1]))] at hu; rw [← hu], rfl⟩
                | exact ⟨by rw [st_bad (by first | exact (fun z => Int32.not_lt.mpr z.1 q25) | exact (fun z => Int32.not_lt.mpr z.2 q32)) (fun z => z.2.elim q111 q118) (fun z => q135 z.2)] at hu; rw [← hu], rfl⟩
            · refine r_iload 133 dX4_findFault_131 rfl rfl ?_
              refine r_bipush (v := 44) 135 dX4_findFault_133 rfl (by decide) ?_
              refine r_icmp_ne 143 138 dX4_findFault_135 (by decide) rfl (fun q135 => ?_) (fun q135 => ?_)
              · refine r_iload_n 144 dX4_findFault_143 rfl rfl ?_
                refine r_iret dX4_findFault_144 rfl (by decide) (by decide) ?_
                first
                  | exact ⟨by rw [st_bad (by first | exact (fun z => Int32.not_lt.mpr z.1 q25) | exact (fun z => Int32.not_lt.mpr z.2 q32)) (fun z => q104 (by rw [z.1])) (fun z => q128 (by rw [z.1]))] at hu; rw [← hu], rfl⟩
                  | exact ⟨by rw [st_bad (by first | exact (fun z => Int32.not_lt.mpr z.1 q25) | exact (fun z => Int32.not_lt.mpr z.2 q32)) (fun z => q104 (by rw [z.1])) (fun z => q135 z.2)] at hu; rw [← hu], rfl⟩
                  | exact ⟨by rw [st_bad (by first | exact (fun z => Int32.not_lt.mpr z.1 q25) | exact (fun z => Int32.not_lt.mpr z.2 q32)) (fun z => z.2.elim q111 q118) (fun z => q128 (by rw [z.1]))] at hu; rw [← hu], rfl⟩
                  | exact ⟨by rw [st_bad (by first | exact (fun z => Int32.not_lt.mpr z.1 q25) | exact (fun z => Int32.not_lt.mpr z.2 q32)) (fun z => z.2.elim q111 q118) (fun z => q135 z.2)] at hu; rw [← hu], rfl⟩
              · refine r_iconst (v := nI 0) 139 dX4_findFault_138 rfl (by decide) ?_
                refine r_istore_n (ls1 := [_, _, _, _, _, _]) 140 dX4_findFault_139 rfl (by decide) rfl rfl ?_
                refine r_goto 145 dX4_findFault_140 (by decide) ?_
                refine r_iinc (ls1 := [_, _, _, _, _, _]) 148 dX4_findFault_145 rfl (by decide) rfl rfl (nI_1 i) rfl ?_
                refine r_goto 6 dX4_findFault_148 (by decide) ?_
                first
                  | (rw [st_dig ⟨Int32.not_lt.mp q25, Int32.not_lt.mp q32⟩ (by first | exact (fun z => z.1 hf) | exact (fun z => q57 z.2)) (ne_f q86)] at hu
                     first
                     | (rw [if_pos hf] at hu
                        exact ih (i + 1) _ _ _ _ (by omega) (by omega) hu (by first | rfl | assumption) (by first | rfl | assumption))
                     | (rw [if_neg hf] at hu
                        exact ih (i + 1) _ _ _ _ (by omega) (by omega) hu (by first | rfl | assumption) (by first | rfl | assumption)))
                  | (rw [st_sep (by first | exact (fun z => Int32.not_lt.mpr z.1 q25) | exact (fun z => Int32.not_lt.mpr z.2 q32)) ((nI_eq (by omega) (by decide)).mp q104) (by first | exact Or.inl q111 | exact Or.inr q118)] at hu
                     exact ih (i + 1) 2 _ _ _ (by omega) (by omega) hu (by first | rfl | assumption) (by first | rfl | assumption))
                  | (rw [st_com (by first | exact (fun z => Int32.not_lt.mpr z.1 q25) | exact (fun z => Int32.not_lt.mpr z.2 q32)) ((nI_eq (by omega) (by decide)).mp q128) q135] at hu
                     exact ih (i + 1) 0 _ _ _ (by omega) (by omega) hu (by first | rfl | assumption) (by first | rfl | assumption))
          · refine r_iload 109 dX4_findFault_107 rfl rfl ?_
            refine r_bipush (v := 45) 111 dX4_findFault_109 rfl (by decide) ?_
            refine r_icmp_eq 121 114 dX4_findFault_111 (by decide) rfl (fun q111 => ?_) (fun q111 => ?_)
            · refine r_iconst (v := nI 2) 122 dX4_findFault_121 rfl (by decide) ?_
              refine r_istore_n (ls1 := [_, _, _, _, _, _]) 123 dX4_findFault_122 rfl (by decide) rfl rfl ?_
              refine r_goto 145 dX4_findFault_123 (by decide) ?_
              refine r_iinc (ls1 := [_, _, _, _, _, _]) 148 dX4_findFault_145 rfl (by decide) rfl rfl (nI_1 i) rfl ?_
              refine r_goto 6 dX4_findFault_148 (by decide) ?_
              first
                | (rw [st_dig ⟨Int32.not_lt.mp q25, Int32.not_lt.mp q32⟩ (by first | exact (fun z => z.1 hf) | exact (fun z => q57 z.2)) (ne_f q86)] at hu
                   first
                   | (rw [if_pos hf] at hu
                      exact ih (i + 1) _ _ _ _ (by omega) (by omega) hu (by first | rfl | assumption) (by first | rfl | assumption))
                   | (rw [if_neg hf] at hu
                      exact ih (i + 1) _ _ _ _ (by omega) (by omega) hu (by first | rfl | assumption) (by first | rfl | assumption)))
                | (rw [st_sep (by first | exact (fun z => Int32.not_lt.mpr z.1 q25) | exact (fun z => Int32.not_lt.mpr z.2 q32)) ((nI_eq (by omega) (by decide)).mp q104) (by first | exact Or.inl q111 | exact Or.inr q118)] at hu
                   exact ih (i + 1) 2 _ _ _ (by omega) (by omega) hu (by first | rfl | assumption) (by first | rfl | assumption))
                | (rw [st_com (by first | exact (fun z => Int32.not_lt.mpr z.1 q25) | exact (fun z => Int32.not_lt.mpr z.2 q32)) ((nI_eq (by omega) (by decide)).mp q128) q135] at hu
                   exact ih (i + 1) 0 _ _ _ (by omega) (by omega) hu (by first | rfl | assumption) (by first | rfl | assumption))
            · refine r_iload 116 dX4_findFault_114 rfl rfl ?_
              refine r_bipush (v := 120) 118 dX4_findFault_116 rfl (by decide) ?_
              refine r_icmp_ne 126 121 dX4_findFault_118 (by decide) rfl (fun q118 => ?_) (fun q118 => ?_)
              · refine r_iload_n 127 dX4_findFault_126 rfl rfl ?_
                refine r_iconst (v := nI 3) 128 dX4_findFault_127 rfl (by decide) ?_
                refine r_icmp_ne 143 131 dX4_findFault_128 (by decide) rfl (fun q128 => ?_) (fun q128 => ?_)
                · refine r_iload_n 144 dX4_findFault_143 rfl rfl ?_
                  refine r_iret dX4_findFault_144 rfl (by decide) (by decide) ?_
                  first
                    | exact ⟨by rw [st_bad (by first | exact (fun z => Int32.not_lt.mpr z.1 q25) | exact (fun z => Int32.not_lt.mpr z.2 q32)) (fun z => q104 (by rw [z.1])) (fun z => q128 (by rw [z.1]))] at hu; rw [← hu], rfl⟩
                    | exact ⟨by rw [st_bad (by first | exact (fun z => Int32.not_lt.mpr z.1 q25) | exact (fun z => Int32.not_lt.mpr z.2 q32)) (fun z => q104 (by rw [z.1])) (fun z => q135 z.2)] at hu; rw [← hu], rfl⟩
                    | exact ⟨by rw [st_bad (by first | exact (fun z => Int32.not_lt.mpr z.1 q25) | exact (fun z => Int32.not_lt.mpr z.2 q32)) (fun z => z.2.elim q111 q118) (fun z => q128 (by rw [z.1]))] at hu; rw [← hu], rfl⟩
                    | exact ⟨by rw [st_bad (by first | exact (fun z => Int32.not_lt.mpr z.1 q25) | exact (fun z => Int32.not_lt.mpr z.2 q32)) (fun z => z.2.elim q111 q118) (fun z => q135 z.2)] at hu; rw [← hu], rfl⟩
                · refine r_iload 133 dX4_findFault_131 rfl rfl ?_
                  refine r_bipush (v := 44) 135 dX4_findFault_133 rfl (by decide) ?_
                  refine r_icmp_ne 143 138 dX4_findFault_135 (by decide) rfl (fun q135 => ?_) (fun q135 => ?_)
                  · refine r_iload_n 144 dX4_findFault_143 rfl rfl ?_
                    refine r_iret dX4_findFault_144 rfl (by decide) (by decide) ?_
                    first
                      | exact ⟨by rw [st_bad (by first | exact (fun z => Int32.not_lt.mpr z.1 q25) | exact (fun z => Int32.not_lt.mpr z.2 q32)) (fun z => q104 (by rw [z.1])) (fun z => q128 (by rw [z.1]))] at hu; rw [← hu], rfl⟩
                      | exact ⟨by rw [st_bad (by first | exact (fun z => Int32.not_lt.mpr z.1 q25) | exact (fun z => Int32.not_lt.mpr z.2 q32)) (fun z => q104 (by rw [z.1])) (fun z => q135 z.2)] at hu; rw [← hu], rfl⟩
                      | exact ⟨by rw [st_bad (by first | exact (fun z => Int32.not_lt.mpr z.1 q25) | exact (fun z => Int32.not_lt.mpr z.2 q32)) (fun z => z.2.elim q111 q118) (fun z => q128 (by rw [z.1]))] at hu; rw [← hu], rfl⟩
                      | exact ⟨by rw [st_bad (by first | exact (fun z => Int32.not_lt.mpr z.1 q25) | exact (fun z => Int32.not_lt.mpr z.2 q32)) (fun z => z.2.elim q111 q118) (fun z => q135 z.2)] at hu; rw [← hu], rfl⟩
                  · refine r_iconst (v := nI 0) 139 dX4_findFault_138 rfl (by decide) ?_
                    refine r_istore_n (ls1 := [_, _, _, _, _, _]) 140 dX4_findFault_139 rfl (by decide) rfl rfl ?_
                    refine r_goto 145 dX4_findFault_140 (by decide) ?_
                    refine r_iinc (ls1 := [_, _, _, _, _, _]) 148 dX4_findFault_145 rfl (by decide) rfl rfl (nI_1 i) rfl ?_
                    refine r_goto 6 dX4_findFault_148 (by decide) ?_
                    first
                      | (rw [st_dig ⟨Int32.not_lt.mp q25, Int32.not_lt.mp q32⟩ (by first | exact (fun z => z.1 hf) | exact (fun z => q57 z.2)) (ne_f q86)] at hu
                         first
                         | (rw [if_pos hf] at hu
                            exact ih (i + 1) _ _ _ _ (by omega) (by omega) hu (by first | rfl | assumption) (by first | rfl | assumption))
                         | (rw [if_neg hf] at hu
                            exact ih (i + 1) _ _ _ _ (by omega) (by omega) hu (by first | rfl | assumption) (by first | rfl | assumption)))
                      | (rw [st_sep (by first | exact (fun z => Int32.not_lt.mpr z.1 q25) | exact (fun z => Int32.not_lt.mpr z.2 q32)) ((nI_eq (by omega) (by decide)).mp q104) (by first | exact Or.inl q111 | exact Or.inr q118)] at hu
                         exact ih (i + 1) 2 _ _ _ (by omega) (by omega) hu (by first | rfl | assumption) (by first | rfl | assumption))
                      | (rw [st_com (by first | exact (fun z => Int32.not_lt.mpr z.1 q25) | exact (fun z => Int32.not_lt.mpr z.2 q32)) ((nI_eq (by omega) (by decide)).mp q128) q135] at hu
                         exact ih (i + 1) 0 _ _ _ (by omega) (by omega) hu (by first | rfl | assumption) (by first | rfl | assumption))
              · refine r_iconst (v := nI 2) 122 dX4_findFault_121 rfl (by decide) ?_
                refine r_istore_n (ls1 := [_, _, _, _, _, _]) 123 dX4_findFault_122 rfl (by decide) rfl rfl ?_
                refine r_goto 145 dX4_findFault_123 (by decide) ?_
                refine r_iinc (ls1 := [_, _, _, _, _, _]) 148 dX4_findFault_145 rfl (by decide) rfl rfl (nI_1 i) rfl ?_
                refine r_goto 6 dX4_findFault_148 (by decide) ?_
                first
                  | (rw [st_dig ⟨Int32.not_lt.mp q25, Int32.not_lt.mp q32⟩ (by first | exact (fun z => z.1 hf) | exact (fun z => q57 z.2)) (ne_f q86)] at hu
                     first
                     | (rw [if_pos hf] at hu
                        exact ih (i + 1) _ _ _ _ (by omega) (by omega) hu (by first | rfl | assumption) (by first | rfl | assumption))
                     | (rw [if_neg hf] at hu
                        exact ih (i + 1) _ _ _ _ (by omega) (by omega) hu (by first | rfl | assumption) (by first | rfl | assumption)))
                  | (rw [st_sep (by first | exact (fun z => Int32.not_lt.mpr z.1 q25) | exact (fun z => Int32.not_lt.mpr z.2 q32)) ((nI_eq (by omega) (by decide)).mp q104) (by first | exact Or.inl q111 | exact Or.inr q118)] at hu
                     exact ih (i + 1) 2 _ _ _ (by omega) (by omega) hu (by first | rfl | assumption) (by first | rfl | assumption))
                  | (rw [st_com (by first | exact (fun z => Int32.not_lt.mpr z.1 q25) | exact (fun z => Int32.not_lt.mpr z.2 q32)) ((nI_eq (by omega) (by decide)).mp q128) q135] at hu
                     exact ih (i + 1) 0 _ _ _ (by omega) (by omega) hu (by first | rfl | assumption) (by first | rfl | assumption))
        · refine r_iload_n 36 dX4_findFault_35 rfl rfl ?_
          refine r_if_eq 44 39 dX4_findFault_36 (by decide) rfl (fun q36 => ?_) (fun q36 => ?_)
          · refine r_iconst (v := 1) 45 dX4_findFault_44 rfl (by decide) ?_
            refine r_goto 49 dX4_findFault_45 (by decide) ?_
            refine r_istore (ls1 := [_, _, _, _, _, _]) 51 dX4_findFault_49 rfl (by decide) rfl rfl ?_
            first
              | have hf : pl = 0 ∨ pl = 2 := Or.inl (nI_z (by omega) q36)
              | have hf : pl = 0 ∨ pl = 2 := Or.inr ((nI_eq (by omega) (by decide)).mp q41)
              | have hf : ¬ (pl = 0 ∨ pl = 2) := fun z => z.elim (fun a => q36 (by rw [a]; rfl)) (fun a => q41 (by rw [a]))
            refine r_iload 53 dX4_findFault_51 rfl rfl ?_
            refine r_if_ne 62 56 dX4_findFault_53 (by decide) rfl (fun q53 => ?_) (fun q53 => absurd q53 (by decide))
            refine r_iload 64 dX4_findFault_62 rfl rfl ?_
            refine r_if_eq 71 67 dX4_findFault_64 (by decide) rfl (fun q64 => absurd q64 (by decide)) (fun q64 => ?_)
            refine r_iconst (v := 0) 68 dX4_findFault_67 rfl (by decide) ?_
            refine r_goto 75 dX4_findFault_68 (by decide) ?_
            refine r_iload 77 dX4_findFault_75 rfl rfl ?_
            refine r_bipush (v := 48) 79 dX4_findFault_77 rfl (by decide) ?_
            refine r_isub 80 dX4_findFault_79 rfl ?_
            refine r_iadd 81 dX4_findFault_80 rfl ?_
            refine r_top ((if pl = 0 ∨ pl = 2 then 0 else num * 10) + (pf i - 48)) (by first | rw [if_pos hf] | rw [if_neg hf]) ?_
            refine r_istore_n (ls1 := [_, _, _, _, _, _]) 82 dX4_findFault_81 rfl (by decide) rfl rfl ?_
            refine r_iload_n 83 dX4_findFault_82 rfl rfl ?_
            refine r_callSN0 86 dX4_findFault_83 rfl (tX6_isSquare) l_X4_29 mX6_isSquare rfl (by decide) (Nat.le_of_ble_eq_true rfl) (by decide) (qI ?_)
            refine r_if_ne 91 89 dX4_findFault_86 (by decide) rfl (fun q86 => ?_) (fun q86 => ?_)
            · refine r_iload 93 dX4_findFault_91 rfl rfl ?_
              refine r_if_eq 99 96 dX4_findFault_93 (by decide) rfl (fun q93 => absurd q93 (by decide)) (fun q93 => ?_)
              refine r_iinc (ls1 := [_, _, _, _, _, _]) 99 dX4_findFault_96 rfl (by decide) rfl rfl (nI_1 pl) rfl ?_
              refine r_goto 145 dX4_findFault_99 (by decide) ?_
              refine r_iinc (ls1 := [_, _, _, _, _, _]) 148 dX4_findFault_145 rfl (by decide) rfl rfl (nI_1 i) rfl ?_
              refine r_goto 6 dX4_findFault_148 (by decide) ?_
              first
                | (rw [st_dig ⟨Int32.not_lt.mp q25, Int32.not_lt.mp q32⟩ (by first | exact (fun z => z.1 hf) | exact (fun z => q57 z.2)) (ne_f q86)] at hu
                   first
                   | (rw [if_pos hf] at hu
                      exact ih (i + 1) _ _ _ _ (by omega) (by omega) hu (by first | rfl | assumption) (by first | rfl | assumption))
                   | (rw [if_neg hf] at hu
                      exact ih (i + 1) _ _ _ _ (by omega) (by omega) hu (by first | rfl | assumption) (by first | rfl | assumption)))
                | (rw [st_sep (by first | exact (fun z => Int32.not_lt.mpr z.1 q25) | exact (fun z => Int32.not_lt.mpr z.2 q32)) ((nI_eq (by omega) (by decide)).mp q104) (by first | exact Or.inl q111 | exact Or.inr q118)] at hu
                   exact ih (i + 1) 2 _ _ _ (by omega) (by omega) hu (by first | rfl | assumption) (by first | rfl | assumption))
                | (rw [st_com (by first | exact (fun z => Int32.not_lt.mpr z.1 q25) | exact (fun z => Int32.not_lt.mpr z.2 q32)) ((nI_eq (by omega) (by decide)).mp q128) q135] at hu
                   exact ih (i + 1) 0 _ _ _ (by omega) (by omega) hu (by first | rfl | assumption) (by first | rfl | assumption))
            · refine r_iload_n 90 dX4_findFault_89 rfl rfl ?_
              refine r_iret dX4_findFault_90 rfl (by decide) (by decide) ?_
              exact ⟨by rw [st_dig1 ⟨Int32.not_lt.mp q25, Int32.not_lt.mp q32⟩ (bI_0.mp q86)] at hu; rw [← hu], rfl⟩
          · refine r_iload_n 40 dX4_findFault_39 rfl rfl ?_
            refine r_iconst (v := nI 2) 41 dX4_findFault_40 rfl (by decide) ?_
            refine r_icmp_ne 48 44 dX4_findFault_41 (by decide) rfl (fun q41 => ?_) (fun q41 => ?_)
            · refine r_iconst (v := 0) 49 dX4_findFault_48 rfl (by decide) ?_
              refine r_istore (ls1 := [_, _, _, _, _, _]) 51 dX4_findFault_49 rfl (by decide) rfl rfl ?_
              first
                | have hf : pl = 0 ∨ pl = 2 := Or.inl (nI_z (by omega) q36)
                | have hf : pl = 0 ∨ pl = 2 := Or.inr ((nI_eq (by omega) (by decide)).mp q41)
                | have hf : ¬ (pl = 0 ∨ pl = 2) := fun z => z.elim (fun a => q36 (by rw [a]; rfl)) (fun a => q41 (by rw [a]))
              refine r_iload 53 dX4_findFault_51 rfl rfl ?_
              refine r_if_ne 62 56 dX4_findFault_53 (by decide) rfl (fun q53 => absurd q53 (by decide)) (fun q53 => ?_)
              refine r_iload_n 57 dX4_findFault_56 rfl rfl ?_
              refine r_if_ne 62 60 dX4_findFault_57 (by decide) rfl (fun q57 => ?_) (fun q57 => ?_)
              · refine r_iload 64 dX4_findFault_62 rfl rfl ?_
                refine r_if_eq 71 67 dX4_findFault_64 (by decide) rfl (fun q64 => ?_) (fun q64 => absurd q64 (by decide))
                refine r_iload_n 72 dX4_findFault_71 rfl rfl ?_
                refine r_bipush (v := 10) 74 dX4_findFault_72 rfl (by decide) ?_
                refine r_imul 75 dX4_findFault_74 rfl ?_
                refine r_iload 77 dX4_findFault_75 rfl rfl ?_
                refine r_bipush (v := 48) 79 dX4_findFault_77 rfl (by decide) ?_
                refine r_isub 80 dX4_findFault_79 rfl ?_
                refine r_iadd 81 dX4_findFault_80 rfl ?_
                refine r_top ((if pl = 0 ∨ pl = 2 then 0 else num * 10) + (pf i - 48)) (by first | rw [if_pos hf] | rw [if_neg hf]) ?_
                refine r_istore_n (ls1 := [_, _, _, _, _, _]) 82 dX4_findFault_81 rfl (by decide) rfl rfl ?_
                refine r_iload_n 83 dX4_findFault_82 rfl rfl ?_
                refine r_callSN0 86 dX4_findFault_83 rfl (tX6_isSquare) l_X4_29 mX6_isSquare rfl (by decide) (Nat.le_of_ble_eq_true rfl) (by decide) (qI ?_)
                refine r_if_ne 91 89 dX4_findFault_86 (by decide) rfl (fun q86 => ?_) (fun q86 => ?_)
                · refine r_iload 93 dX4_findFault_91 rfl rfl ?_
                  refine r_if_eq 99 96 dX4_findFault_93 (by decide) rfl (fun q93 => ?_) (fun q93 => absurd q93 (by decide))
                  refine r_goto 145 dX4_findFault_99 (by decide) ?_
                  refine r_iinc (ls1 := [_, _, _, _, _, _]) 148 dX4_findFault_145 rfl (by decide) rfl rfl (nI_1 i) rfl ?_
                  refine r_goto 6 dX4_findFault_148 (by decide) ?_
                  first
                    | (rw [st_dig ⟨Int32.not_lt.mp q25, Int32.not_lt.mp q32⟩ (by first | exact (fun z => z.1 hf) | exact (fun z => q57 z.2)) (ne_f q86)] at hu
                       first
                       | (rw [if_pos hf] at hu
                          exact ih (i + 1) _ _ _ _ (by omega) (by omega) hu (by first | rfl | assumption) (by first | rfl | assumption))
                       | (rw [if_neg hf] at hu
                          exact ih (i + 1) _ _ _ _ (by omega) (by omega) hu (by first | rfl | assumption) (by first | rfl | assumption)))
                    | (rw [st_sep (by first | exact (fun z => Int32.not_lt.mpr z.1 q25) | exact (fun z => Int32.not_lt.mpr z.2 q32)) ((nI_eq (by omega) (by decide)).mp q104) (by first | exact Or.inl q111 | exact Or.inr q118)] at hu
                       exact ih (i + 1) 2 _ _ _ (by omega) (by omega) hu (by first | rfl | assumption) (by first | rfl | assumption))
                    | (rw [st_com (by first | exact (fun z => Int32.not_lt.mpr z.1 q25) | exact (fun z => Int32.not_lt.mpr z.2 q32)) ((nI_eq (by omega) (by decide)).mp q128) q135] at hu
                       exact ih (i + 1) 0 _ _ _ (by omega) (by omega) hu (by first | rfl | assumption) (by first | rfl | assumption))
                · refine r_iload_n 90 dX4_findFault_89 rfl rfl ?_
                  refine r_iret dX4_findFault_90 rfl (by decide) (by decide) ?_
                  exact ⟨by rw [st_dig1 ⟨Int32.not_lt.mp q25, Int32.not_lt.mp q32⟩ (bI_0.mp q86)] at hu; rw [← hu], rfl⟩
              · refine r_iload_n 61 dX4_findFault_60 rfl rfl ?_
                refine r_iret dX4_findFault_61 rfl (by decide) (by decide) ?_
                exact ⟨by rw [st_dig0 ⟨Int32.not_lt.mp q25, Int32.not_lt.mp q32⟩ ⟨hf, q57⟩] at hu; rw [← hu], rfl⟩
            · refine r_iconst (v := 1) 45 dX4_findFault_44 rfl (by decide) ?_
              refine r_goto 49 dX4_findFault_45 (by decide) ?_
              refine r_istore (ls1 := [_, _, _, _, _, _]) 51 dX4_findFault_49 rfl (by decide) rfl rfl ?_
              first
                | have hf : pl = 0 ∨ pl = 2 := Or.inl (nI_z (by omega) q36)
                | have hf : pl = 0 ∨ pl = 2 := Or.inr ((nI_eq (by omega) (by decide)).mp q41)
                | have hf : ¬ (pl = 0 ∨ pl = 2) := fun z => z.elim (fun a => q36 (by rw [a]; rfl)) (fun a => q41 (by rw [a]))
              refine r_iload 53 dX4_findFault_51 rfl rfl ?_
              refine r_if_ne 62 56 dX4_findFault_53 (by decide) rfl (fun q53 => ?_) (fun q53 => absurd q53 (by decide))
              refine r_iload 64 dX4_findFault_62 rfl rfl ?_
              refine r_if_eq 71 67 dX4_findFault_64 (by decide) rfl (fun q64 => absurd q64 (by decide)) (fun q64 => ?_)
              refine r_iconst (v := 0) 68 dX4_findFault_67 rfl (by decide) ?_
              refine r_goto 75 dX4_findFault_68 (by decide) ?_
              refine r_iload 77 dX4_findFault_75 rfl rfl ?_
              refine r_bipush (v := 48) 79 dX4_findFault_77 rfl (by decide) ?_
              refine r_isub 80 dX4_findFault_79 rfl ?_
              refine r_iadd 81 dX4_findFault_80 rfl ?_
              refine r_top ((if pl = 0 ∨ pl = 2 then 0 else num * 10) + (pf i - 48)) (by first | rw [if_pos hf] | rw [if_neg hf]) ?_
              refine r_istore_n (ls1 := [_, _, _, _, _, _]) 82 dX4_findFault_81 rfl (by decide) rfl rfl ?_
              refine r_iload_n 83 dX4_findFault_82 rfl rfl ?_
              refine r_callSN0 86 dX4_findFault_83 rfl (tX6_isSquare) l_X4_29 mX6_isSquare rfl (by decide) (Nat.le_of_ble_eq_true rfl) (by decide) (qI ?_)
              refine r_if_ne 91 89 dX4_findFault_86 (by decide) rfl (fun q86 => ?_) (fun q86 => ?_)
              · refine r_iload 93 dX4_findFault_91 rfl rfl ?_
                refine r_if_eq 99 96 dX4_findFault_93 (by decide) rfl (fun q93 => absurd q93 (by decide)) (fun q93 => ?_)
                refine r_iinc (ls1 := [_, _, _, _, _, _]) 99 dX4_findFault_96 rfl (by decide) rfl rfl (nI_1 pl) rfl ?_
                refine r_goto 145 dX4_findFault_99 (by decide) ?_
                refine r_iinc (ls1 := [_, _, _, _, _, _]) 148 dX4_findFault_145 rfl (by decide) rfl rfl (nI_1 i) rfl ?_
                refine r_goto 6 dX4_findFault_148 (by decide) ?_
                first
                  | (rw [st_dig ⟨Int32.not_lt.mp q25, Int32.not_lt.mp q32⟩ (by first | exact (fun z => z.1 hf) | exact (fun z => q57 z.2)) (ne_f q86)] at hu
                     first
                     | (rw [if_pos hf] at hu
                        exact ih (i + 1) _ _ _ _ (by omega) (by omega) hu (by first | rfl | assumption) (by first | rfl | assumption))
                     | (rw [if_neg hf] at hu
                        exact ih (i + 1) _ _ _ _ (by omega) (by omega) hu (by first | rfl | assumption) (by first | rfl | assumption)))
                  | (rw [st_sep (by first | exact (fun z => Int32.not_lt.mpr z.1 q25) | exact (fun z => Int32.not_lt.mpr z.2 q32)) ((nI_eq (by omega) (by decide)).mp q104) (by first | exact Or.inl q111 | exact Or.inr q118)] at hu
                     exact ih (i + 1) 2 _ _ _ (by omega) (by omega) hu (by first | rfl | assumption) (by first | rfl | assumption))
                  | (rw [st_com (by first | exact (fun z => Int32.not_lt.mpr z.1 q25) | exact (fun z => Int32.not_lt.mpr z.2 q32)) ((nI_eq (by omega) (by decide)).mp q128) q135] at hu
                     exact ih (i + 1) 0 _ _ _ (by omega) (by omega) hu (by first | rfl | assumption) (by first | rfl | assumption))
              · refine r_iload_n 90 dX4_findFault_89 rfl rfl ?_
                refine r_iret dX4_findFault_90 rfl (by decide) (by decide) ?_
                exact ⟨by rw [st_dig1 ⟨Int32.not_lt.mp q25, Int32.not_lt.mp q32⟩ (bI_0.mp q86)] at hu; rw [← hu], rfl⟩
  refine Cl.of (ls := [some (.ref h), none, none, none, none, none]) rfl (by decide +kernel) (fun h => by cases h) (Nat.le_of_ble_eq_true rfl) rfl ?_
  refine r_iconst (v := nI 0) 1 dX4_findFault_0 rfl (by decide) ?_
  refine r_istore_n (ls1 := [_, _, _, _, _, _]) 2 dX4_findFault_1 rfl (by decide) rfl rfl ?_
  refine r_iconst (v := 0) 3 dX4_findFault_2 rfl (by decide) ?_
  refine r_istore_n (ls1 := [_, _, _, _, _, _]) 4 dX4_findFault_3 rfl (by decide) rfl rfl ?_
  refine r_iconst (v := nI 0) 5 dX4_findFault_4 rfl (by decide) ?_
  refine r_istore_n (ls1 := [_, _, _, _, _, _]) 6 dX4_findFault_5 rfl (by decide) rfl rfl ?_
  exact loop pn 0 0 0 _ _ (by omega) (by decide) rfl rfl rfl

