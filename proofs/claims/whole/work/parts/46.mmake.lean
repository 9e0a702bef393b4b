/-! ===== the model: a hop is made; states are kept ===== -/
theorem side_m {m : Nat} (hm : m < 2) : m = 0 ∨ m = 1 := by omega
set_option maxHeartbeats 4000000 in
set_option maxRecDepth 100000 in
theorem tX7_makeIt {Γ : CT} {w : PW} {pm ty rm sp wr : Int32} {z : Nat → Int32} {f : Nat → Int32} {m : Nat} {oc cs : Int32} {cl : Nat → Int32} {mk jp : Int32} {lo : Nat → Int32} {qt : Int32} {P : List P3} {W : MW} {l : List HP} {k : Nat} {q : HP} (ho : w[43]? = some (oM pm ty rm sp wr)) (hz : w[44]? = some (aI 431 z)) (hA : zA z f (nI m) oc cs cl mk jp lo qt P) (hW : isW w W) (hb : bdA W 0 f) (hsd : W.2.1 0 = nI m) (hls : lsA W 0 l) (hq : l[k]? = some q) (hg : goQ f (nI m) q) (hf : okF f) (hm : m < 2) (hps : qtB f q = true → P.length ≤ 60) (hPo : ∀ p ∈ P, okp3 p) : Cl Γ yX7_makeIt XX7_makeIt 8 0 0 [.ref 43, .int (nI k)] w (rN (toZ w (mkF f (nI m) q) (mkM f (nI m) q) (judO (mkF f (nI m) q) (mkM f (nI m) q) (((if qtB f q = true then P else []) ++ [((mkF f (nI m) q), (mkM f (nI m) q), (mkJ f (nI m) q))]).map t3p) (qtO f qt q)) cs cl (mk + 1) (mkJ f (nI m) q) (loO lo m q) (qtO f qt q) ((if qtB f q = true then P else []) ++ [((mkF f (nI m) q), (mkM f (nI m) q), (mkJ f (nI m) q))]))) := by
  obtain ⟨c49, c50, c51, c52, c53, c54, c55, c56, c57⟩ := id hW
  have hk : k < l.length := (List.getElem?_eq_some_iff.mp hq).1
  have h192 := hls.1
  obtain ⟨e1, e2, e3, e4, e5⟩ := hls.2.2 k q hq
  have hmv := side_01 hm
  have hg1 := hg.1
  have tail : ∀ (b : Bool), b = qtB f q → ∀ (v : PW) (y : Nat → Int32), Fr w v (fun q => q = 44) → v[44]? = some (aI 431 y) → zA y f (nI m) oc cs cl mk jp (loO lo m q) qt P → Rn Γ XX7_makeIt (rmO 8 0 0) none (FinM (rN (toZ w (mkF f (nI m) q) (mkM f (nI m) q) (judO (mkF f (nI m) q) (mkM f (nI m) q) (((if qtB f q = true then P else []) ++ [((mkF f (nI m) q), (mkM f (nI m) q), (mkJ f (nI m) q))]).map t3p) (qtO f qt q)) cs cl (mk + 1) (mkJ f (nI m) q) (loO lo m q) (qtO f qt q) ((if qtB f q = true then P else []) ++ [((mkF f (nI m) q), (mkM f (nI m) q), (mkJ f (nI m) q))]))) 0 0) 0 0 v 66 [some (.ref 43), some (.int (nI k)), some (.int (nI k)), some (.int (bI b)), none] [] := by
    intro b hbq v y hFv hyv hB
    subst hbq
    have oV := (hFv.2 43 (by decide)).trans ho
    have hWv := hW.s44 hFv
    refine r_aload_n 67 dX7_makeIt_66 rfl rfl rfl ?_
    refine r_iconst (v := nI 0) 68 dX7_makeIt_67 rfl (by decide) ?_
    refine r_iload_n 69 dX7_makeIt_68 rfl rfl ?_
    refine r_callV0 72 dX7_makeIt_69 rfl (tX7_go (L := 0) oV hWv hb hls (by decide) hq hg hf hsd hmv) l_X7_152 mX7_go rfl (by repeat (first | assumption | refine gs_eq ?_ | refine gs_ne (by omega) ?_ | exact is_of (by assumption) | refine gs_is ?_)) rfl (by decide) (Nat.le_of_ble_eq_true rfl) (by decide) (qN fun w2 hgo => ?_)
    obtain ⟨hF2, V, hV, hbV, hsV, hcV, hmV⟩ := hgo
    have o2 := (hF2.2 43 (by unfold wS; omega)).trans oV
    have z2 := (hF2.2 44 (by unfold wS; omega)).trans hyv
    obtain ⟨d49, d50, d51, d52, d53, d54, d55, d56, d57⟩ := id hV
    have loop : ∀ (m1 i : Nat) (u : PW) (y2 : Nat → Int32), i + m1 = 48 → Fr w2 u (fun q => q = 44) → u[44]? = some (aI 431 y2) → (∀ s, s < i → y2 s = mkF f (nI m) q s) → (∀ j, 48 ≤ j → y2 j = y j) → Rn Γ XX7_makeIt (rmO 8 0 0) none (FinM (rN (toZ w (mkF f (nI m) q) (mkM f (nI m) q) (judO (mkF f (nI m) q) (mkM f (nI m) q) (((if qtB f q = true then P else []) ++ [((mkF f (nI m) q), (mkM f (nI m) q), (mkJ f (nI m) q))]).map t3p) (qtO f qt q)) cs cl (mk + 1) (mkJ f (nI m) q) (loO lo m q) (qtO f qt q) ((if qtB f q = true then P else []) ++ [((mkF f (nI m) q), (mkM f (nI m) q), (mkJ f (nI m) q))]))) 0 0) 0 0 u 75 [some (.ref 43), some (.int (nI k)), some (.int (nI k)), some (.int (bI (qtB f q))), some (.int (nI i))] [] := by
      intro m1
      induction m1 with
      | zero =>
        intro i u y2 hi hF hy2 hl2 hk2
        have oU := (hF.2 43 (by decide)).trans o2
        obtain ⟨x49, x50, x51, x52, x53, x54, x55, x56, x57⟩ := id (hV.s44 hF)
        have h48 : i = 48 := by omega
        subst h48
        obtain ⟨h0, a48, a49, a50, a51, a52, a53, a54, a55, a56, a57, a58, hp⟩ := id hB
        have hA1 : zA y2 (mkF f (nI m) q) (nI m) oc cs cl mk jp (loO lo m q) qt P := ⟨hl2, (hk2 _ (by decide)).trans a48, (hk2 _ (by decide)).trans a49, (hk2 _ (by decide)).trans a50, (hk2 _ (by decide)).trans a51, (hk2 _ (by decide)).trans a52, (hk2 _ (by decide)).trans a53, (hk2 _ (by decide)).trans a54, (hk2 _ (by decide)).trans a55, (hk2 _ (by decide)).trans a56, (hk2 _ (by decide)).trans a57, (hk2 _ (by decide)).trans a58, fun i p hi k hk6 => (hk2 _ (by omega)).trans (hp i p hi k hk6)⟩
        have hA2 := (hA1.s48 (x := mkM f (nI m) q)).s54 (x := mkJ f (nI m) q)
        have hA3 := hA2.s53 (x := mk + 1)
        have hokn : okp3 (mkF f (nI m) q, mkM f (nI m) q, mkJ f (nI m) q) := ⟨mkF_ok hg hf, mkM_01 hmv, by
          unfold mkJ
          split
          · exact Or.inr ⟨q.2.1, hg.2.1, rfl⟩
          · exact Or.inl rfl⟩
        have hok' : ∀ p ∈ (if qtB f q = true then P else []) ++ [(mkF f (nI m) q, mkM f (nI m) q, mkJ f (nI m) q)], okp3 p := fun p hp => by
          rcases List.mem_append.mp hp with h | h
          · split at h
            · exact hPo p h
            · simp at h
          · rw [List.mem_singleton] at h
            rw [h]
            exact hokn
        cases hqb : qtB f q with
        | false =>
          refine r_iload 77 dX7_makeIt_75 rfl rfl ?_
          refine r_bipush (v := nI 48) 79 dX7_makeIt_77 rfl (by decide) ?_
          refine r_icmp_ge 104 82 dX7_makeIt_79 (by decide) rfl (fun q79 => ?_) (fun q79 => absurd q79 (fun z => z (nI_le (by omega) (by omega))))
          refine r_aload_n 105 dX7_makeIt_104 rfl rfl rfl ?_
          refine r_getf 108 dX7_makeIt_105 rfl f_X7_7.r (by repeat (first | assumption | refine gs_eq ?_ | refine gs_ne (by omega) ?_ | exact is_of (by assumption) | refine gs_is ?_)) rfl ?_
          refine r_bipush (v := 48) 110 dX7_makeIt_108 rfl (by decide) ?_
          refine r_aload_n 111 dX7_makeIt_110 rfl rfl rfl ?_
          refine r_getf 114 dX7_makeIt_111 rfl f_X7_30.r (by repeat (first | assumption | refine gs_eq ?_ | refine gs_ne (by omega) ?_ | exact is_of (by assumption) | refine gs_is ?_)) rfl ?_
          refine r_iconst (v := 1) 115 dX7_makeIt_114 rfl (by decide) ?_
          refine r_iald 116 dX7_makeIt_115 rfl (1) (by repeat (first | assumption | refine gs_eq ?_ | refine gs_ne (by omega) ?_ | exact is_of (by assumption) | refine gs_is ?_)) rfl (by decide) (by decide) ?_
          rw [show V.2.1 1 = mkM f (nI m) q from hsV]
          refine r_iast 117 dX7_makeIt_116 rfl (48) (by repeat (first | assumption | refine gs_eq ?_ | refine gs_ne (by omega) ?_ | exact is_of (by assumption) | refine gs_is ?_)) rfl (by decide) (by decide) ?_
          refine r_aload_n 118 dX7_makeIt_117 rfl rfl rfl ?_
          refine r_getf 121 dX7_makeIt_118 rfl f_X7_7.r (by repeat (first | assumption | refine gs_eq ?_ | refine gs_ne (by omega) ?_ | exact is_of (by assumption) | refine gs_is ?_)) rfl ?_
          refine r_bipush (v := 54) 123 dX7_makeIt_121 rfl (by decide) ?_
          refine r_aload_n 124 dX7_makeIt_123 rfl rfl rfl ?_
          refine r_getf 127 dX7_makeIt_124 rfl f_X7_33.r (by repeat (first | assumption | refine gs_eq ?_ | refine gs_ne (by omega) ?_ | exact is_of (by assumption) | refine gs_is ?_)) rfl ?_
          refine r_iconst (v := 1) 128 dX7_makeIt_127 rfl (by decide) ?_
          refine r_iald 129 dX7_makeIt_128 rfl (1) (by repeat (first | assumption | refine gs_eq ?_ | refine gs_ne (by omega) ?_ | exact is_of (by assumption) | refine gs_is ?_)) rfl (by decide) (by decide) ?_
          rw [show V.2.2.1 1 = mkJ f (nI m) q from hcV]
          refine r_iast 130 dX7_makeIt_129 rfl (54) (by repeat (first | assumption | refine gs_eq ?_ | refine gs_ne (by omega) ?_ | exact is_of (by assumption) | refine gs_is ?_)) rfl (by decide) (by decide) ?_
          refine r_aload_n 131 dX7_makeIt_130 rfl rfl rfl ?_
          refine r_getf 134 dX7_makeIt_131 rfl f_X7_7.r (by repeat (first | assumption | refine gs_eq ?_ | refine gs_ne (by omega) ?_ | exact is_of (by assumption) | refine gs_is ?_)) rfl ?_
          refine r_bipush (v := 53) 136 dX7_makeIt_134 rfl (by decide) ?_
          refine r_dup2 137 dX7_makeIt_136 rfl rfl rfl ?_
          refine r_iald 138 dX7_makeIt_137 rfl (53) (by repeat (first | assumption | refine gs_eq ?_ | refine gs_ne (by omega) ?_ | exact is_of (by assumption) | refine gs_is ?_)) rfl (by decide) (by decide) ?_
          rw [hA2.2.2.2.2.2.2.1]
          refine r_iconst (v := 1) 139 dX7_makeIt_138 rfl (by decide) ?_
          refine r_iadd 140 dX7_makeIt_139 rfl ?_
          refine r_iast 141 dX7_makeIt_140 rfl (53) (by repeat (first | assumption | refine gs_eq ?_ | refine gs_ne (by omega) ?_ | exact is_of (by assumption) | refine gs_is ?_)) rfl (by decide) (by decide) ?_
          refine r_aload_n 142 dX7_makeIt_141 rfl rfl rfl ?_
          refine r_getf 145 dX7_makeIt_142 rfl f_X7_7.r (by repeat (first | assumption | refine gs_eq ?_ | refine gs_ne (by omega) ?_ | exact is_of (by assumption) | refine gs_is ?_)) rfl ?_
          refine r_bipush (v := 57) 147 dX7_makeIt_145 rfl (by decide) ?_
          refine r_iload_n 148 dX7_makeIt_147 rfl rfl ?_
          refine r_if_eq 163 151 dX7_makeIt_148 (by decide) rfl (fun q148 => ?_) (fun q148 => absurd q148 (by decide))
          refine r_iconst (v := 0) 164 dX7_makeIt_163 rfl (by decide) ?_
          refine r_iast 165 dX7_makeIt_164 rfl (57) (by repeat (first | assumption | refine gs_eq ?_ | refine gs_ne (by omega) ?_ | exact is_of (by assumption) | refine gs_is ?_)) rfl (by decide) (by decide) ?_
          refine r_iload_n 166 dX7_makeIt_165 rfl rfl ?_
          refine r_if_ne 173 169 dX7_makeIt_166 (by decide) rfl (fun q166 => absurd q166 (by decide)) (fun q166 => ?_)
          have hA4 := hA3.s57 (x := 0)
          refine r_aload_n 170 dX7_makeIt_169 rfl rfl rfl ?_
          refine r_callV0 173 dX7_makeIt_170 rfl (tX7_forgetPositions (by repeat (first | assumption | refine gs_eq ?_ | refine gs_ne (by omega) ?_ | exact is_of (by assumption) | refine gs_is ?_)) (by repeat (first | assumption | refine gs_eq ?_ | refine gs_ne (by omega) ?_ | exact is_of (by assumption) | refine gs_is ?_)) hA4) l_X7_131 mX7_forgetPositions rfl (by repeat (first | assumption | refine gs_eq ?_ | refine gs_ne (by omega) ?_ | exact is_of (by assumption) | refine gs_is ?_)) rfl (by decide) (Nat.le_of_ble_eq_true rfl) (by decide) (qN fun w3 gg => ?_)
          obtain ⟨g1, y3, gz3, gA3⟩ := gg
          have go3 := (g1.2 43 (by decide)).trans ((by repeat (first | assumption | refine gs_eq ?_ | refine gs_ne (by omega) ?_ | exact is_of (by assumption) | refine gs_is ?_)) : _ = some (oM pm ty rm sp wr))
          refine r_aload_n 174 dX7_makeIt_173 rfl rfl rfl ?_
          refine r_callV0 177 dX7_makeIt_174 rfl (tX7_writePosition go3 gz3 gA3 (by decide)) l_X7_134 mX7_writePosition rfl (by repeat (first | assumption | refine gs_eq ?_ | refine gs_ne (by omega) ?_ | exact is_of (by assumption) | refine gs_is ?_)) rfl (by decide) (Nat.le_of_ble_eq_true rfl) (by decide) (qN fun w4 kk => ?_)
          obtain ⟨k1, y4, kz4, kA4⟩ := kk
          have go4 := (k1.2 43 (by decide)).trans go3
          have hF44 : Fr w2 w4 (fun q => q = 44) := Fr.tr (Fr.tr (Fr.tr (Fr.tr (Fr.tr (Fr.tr hF (Fr.st rfl)) (Fr.st rfl)) (Fr.st rfl)) (Fr.st rfl)) g1) k1
          have hW4 := hV.s44 hF44
          refine r_aload_n 178 dX7_makeIt_177 rfl rfl rfl ?_
          refine r_callV0 181 dX7_makeIt_178 rfl (tX7_judge go4 kz4 kA4 hW4 (mkF_ok hg hf) (mkM_01 hmv) (mkJ_jj hg hf) (by rw [List.length_append]; exact Nat.le_add_left _ _) (by rw [List.length_append]; exact Nat.le_of_ble_eq_true rfl) (by have h9 := hok'; rw [hqb] at h9; exact h9)) l_X7_137 mX7_judge rfl (by repeat (first | assumption | refine gs_eq ?_ | refine gs_ne (by omega) ?_ | exact is_of (by assumption) | refine gs_is ?_)) rfl (by decide) (Nat.le_of_ble_eq_true rfl) (by decide) (qN fun w5 jj => ?_)
          obtain ⟨j1, y5, V5, jz5, jA5, jW5⟩ := jj
          refine r_vret dX7_makeIt_181 rfl (by decide) (by decide) ?_
          exact ⟨rfl, (Fr.tr hFv.z44 hF2.zW).tr (hF44.z44.tr j1), y5, V5, jz5, by unfold qtO; rw [hqb]; exact jA5, jW5⟩
        | true =>
          refine r_iload 77 dX7_makeIt_75 rfl rfl ?_
          refine r_bipush (v := nI 48) 79 dX7_makeIt_77 rfl (by decide) ?_
          refine r_icmp_ge 104 82 dX7_makeIt_79 (by decide) rfl (fun q79 => ?_) (fun q79 => absurd q79 (fun z => z (nI_le (by omega) (by omega))))
          refine r_aload_n 105 dX7_makeIt_104 rfl rfl rfl ?_
          refine r_getf 108 dX7_makeIt_105 rfl f_X7_7.r (by repeat (first | assumption | refine gs_eq ?_ | refine gs_ne (by omega) ?_ | exact is_of (by assumption) | refine gs_is ?_)) rfl ?_
          refine r_bipush (v := 48) 110 dX7_makeIt_108 rfl (by decide) ?_
          refine r_aload_n 111 dX7_makeIt_110 rfl rfl rfl ?_
          refine r_getf 114 dX7_makeIt_111 rfl f_X7_30.r (by repeat (first | assumption | refine gs_eq ?_ | refine gs_ne (by omega) ?_ | exact is_of (by assumption) | refine gs_is ?_)) rfl ?_
          refine r_iconst (v := 1) 115 dX7_makeIt_114 rfl (by decide) ?_
          refine r_iald 116 dX7_makeIt_115 rfl (1) (by repeat (first | assumption | refine gs_eq ?_ | refine gs_ne (by omega) ?_ | exact is_of (by assumption) | refine gs_is ?_)) rfl (by decide) (by decide) ?_
          rw [show V.2.1 1 = mkM f (nI m) q from hsV]
          refine r_iast 117 dX7_makeIt_116 rfl (48) (by repeat (first | assumption | refine gs_eq ?_ | refine gs_ne (by omega) ?_ | exact is_of (by assumption) | refine gs_is ?_)) rfl (by decide) (by decide) ?_
          refine r_aload_n 118 dX7_makeIt_117 rfl rfl rfl ?_
          refine r_getf 121 dX7_makeIt_118 rfl f_X7_7.r (by repeat (first | assumption | refine gs_eq ?_ | refine gs_ne (by omega) ?_ | exact is_of (by assumption) | refine gs_is ?_)) rfl ?_
          refine r_bipush (v := 54) 123 dX7_makeIt_121 rfl (by decide) ?_
          refine r_aload_n 124 dX7_makeIt_123 rfl rfl rfl ?_
          refine r_getf 127 dX7_makeIt_124 rfl f_X7_33.r (by repeat (first | assumption | refine gs_eq ?_ | refine gs_ne (by omega) ?_ | exact is_of (by assumption) | refine gs_is ?_)) rfl ?_
          refine r_iconst (v := 1) 128 dX7_makeIt_127 rfl (by decide) ?_
          refine r_iald 129 dX7_makeIt_128 rfl (1) (by repeat (first | assumption | refine gs_eq ?_ | refine gs_ne (by omega) ?_ | exact is_of (by assumption) | refine gs_is ?_)) rfl (by decide) (by decide) ?_
          rw [show V.2.2.1 1 = mkJ f (nI m) q from hcV]
          refine r_iast 130 dX7_makeIt_129 rfl (54) (by repeat (first | assumption | refine gs_eq ?_ | refine gs_ne (by omega) ?_ | exact is_of (by assumption) | refine gs_is ?_)) rfl (by decide) (by decide) ?_
          refine r_aload_n 131 dX7_makeIt_130 rfl rfl rfl ?_
          refine r_getf 134 dX7_makeIt_131 rfl f_X7_7.r (by repeat (first | assumption | refine gs_eq ?_ | refine gs_ne (by omega) ?_ | exact is_of (by assumption) | refine gs_is ?_)) rfl ?_
          refine r_bipush (v := 53) 136 dX7_makeIt_134 rfl (by decide) ?_
          refine r_dup2 137 dX7_makeIt_136 rfl rfl rfl ?_
          refine r_iald 138 dX7_makeIt_137 rfl (53) (by repeat (first | assumption | refine gs_eq ?_ | refine gs_ne (by omega) ?_ | exact is_of (by assumption) | refine gs_is ?_)) rfl (by decide) (by decide) ?_
          rw [hA2.2.2.2.2.2.2.1]
          refine r_iconst (v := 1) 139 dX7_makeIt_138 rfl (by decide) ?_
          refine r_iadd 140 dX7_makeIt_139 rfl ?_
          refine r_iast 141 dX7_makeIt_140 rfl (53) (by repeat (first | assumption | refine gs_eq ?_ | refine gs_ne (by omega) ?_ | exact is_of (by assumption) | refine gs_is ?_)) rfl (by decide) (by decide) ?_
          refine r_aload_n 142 dX7_makeIt_141 rfl rfl rfl ?_
          refine r_getf 145 dX7_makeIt_142 rfl f_X7_7.r (by repeat (first | assumption | refine gs_eq ?_ | refine gs_ne (by omega) ?_ | exact is_of (by assumption) | refine gs_is ?_)) rfl ?_
          refine r_bipush (v := 57) 147 dX7_makeIt_145 rfl (by decide) ?_
          refine r_iload_n 148 dX7_makeIt_147 rfl rfl ?_
          refine r_if_eq 163 151 dX7_makeIt_148 (by decide) rfl (fun q148 => absurd q148 (by decide)) (fun q148 => ?_)
          refine r_aload_n 152 dX7_makeIt_151 rfl rfl rfl ?_
          refine r_getf 155 dX7_makeIt_152 rfl f_X7_7.r (by repeat (first | assumption | refine gs_eq ?_ | refine gs_ne (by omega) ?_ | exact is_of (by assumption) | refine gs_is ?_)) rfl ?_
          refine r_bipush (v := 57) 157 dX7_makeIt_155 rfl (by decide) ?_
          refine r_iald 158 dX7_makeIt_157 rfl (57) (by repeat (first | assumption | refine gs_eq ?_ | refine gs_ne (by omega) ?_ | exact is_of (by assumption) | refine gs_is ?_)) rfl (by decide) (by decide) ?_
          rw [hA3.2.2.2.2.2.2.2.2.2.2.1]
          refine r_iconst (v := 1) 159 dX7_makeIt_158 rfl (by decide) ?_
          refine r_iadd 160 dX7_makeIt_159 rfl ?_
          refine r_goto 164 dX7_makeIt_160 (by decide) ?_
          refine r_iast 165 dX7_makeIt_164 rfl (57) (by repeat (first | assumption | refine gs_eq ?_ | refine gs_ne (by omega) ?_ | exact is_of (by assumption) | refine gs_is ?_)) rfl (by decide) (by decide) ?_
          refine r_iload_n 166 dX7_makeIt_165 rfl rfl ?_
          refine r_if_ne 173 169 dX7_makeIt_166 (by decide) rfl (fun q166 => ?_) (fun q166 => absurd q166 (by decide))
          have hA4 := hA3.s57 (x := qt + 1)
          refine r_aload_n 174 dX7_makeIt_173 rfl rfl rfl ?_
          refine r_callV0 177 dX7_makeIt_174 rfl (tX7_writePosition (by repeat (first | assumption | refine gs_eq ?_ | refine gs_ne (by omega) ?_ | exact is_of (by assumption) | refine gs_is ?_)) (by repeat (first | assumption | refine gs_eq ?_ | refine gs_ne (by omega) ?_ | exact is_of (by assumption) | refine gs_is ?_)) hA4 (by have := hps hqb; omega)) l_X7_134 mX7_writePosition rfl (by repeat (first | assumption | refine gs_eq ?_ | refine gs_ne (by omega) ?_ | exact is_of (by assumption) | refine gs_is ?_)) rfl (by decide) (Nat.le_of_ble_eq_true rfl) (by decide) (qN fun w4 kk => ?_)
          obtain ⟨k1, y4, kz4, kA4⟩ := kk
          have go4 := (k1.2 43 (by decide)).trans ((by repeat (first | assumption | refine gs_eq ?_ | refine gs_ne (by omega) ?_ | exact is_of (by assumption) | refine gs_is ?_)) : _ = some (oM pm ty rm sp wr))
          have hF44 : Fr w2 w4 (fun q => q = 44) := Fr.tr (Fr.tr (Fr.tr (Fr.tr (Fr.tr hF (Fr.st rfl)) (Fr.st rfl)) (Fr.st rfl)) (Fr.st rfl)) k1
          have hW4 := hV.s44 hF44
          refine r_aload_n 178 dX7_makeIt_177 rfl rfl rfl ?_
          refine r_callV0 181 dX7_makeIt_178 rfl (tX7_judge go4 kz4 kA4 hW4 (mkF_ok hg hf) (mkM_01 hmv) (mkJ_jj hg hf) (by rw [List.length_append]; exact Nat.le_add_left _ _) (by rw [List.length_append]; exact Nat.succ_le_succ (hps hqb)) (by have h9 := hok'; rw [hqb] at h9; exact h9)) l_X7_137 mX7_judge rfl (by repeat (first | assumption | refine gs_eq ?_ | refine gs_ne (by omega) ?_ | exact is_of (by assumption) | refine gs_is ?_)) rfl (by decide) (Nat.le_of_ble_eq_true rfl) (by decide) (qN fun w5 jj => ?_)
          obtain ⟨j1, y5, V5, jz5, jA5, jW5⟩ := jj
          refine r_vret dX7_makeIt_181 rfl (by decide) (by decide) ?_
          exact ⟨rfl, (Fr.tr hFv.z44 hF2.zW).tr (hF44.z44.tr j1), y5, V5, jz5, by unfold qtO; rw [hqb]; exact jA5, jW5⟩
      | succ m1 ih =>
        intro i u y2 hi hF hy2 hl2 hk2
        have oU := (hF.2 43 (by decide)).trans o2
        obtain ⟨x49, x50, x51, x52, x53, x54, x55, x56, x57⟩ := id (hV.s44 hF)
        refine r_iload 77 dX7_makeIt_75 rfl rfl ?_
        refine r_bipush (v := nI 48) 79 dX7_makeIt_77 rfl (by decide) ?_
        refine r_icmp_ge 104 82 dX7_makeIt_79 (by decide) rfl (fun q79 => absurd q79 (nI_ge (by omega) (by omega))) (fun q79 => ?_)
        refine r_aload_n 83 dX7_makeIt_82 rfl rfl rfl ?_
        refine r_getf 86 dX7_makeIt_83 rfl f_X7_7.r (by repeat (first | assumption | refine gs_eq ?_ | refine gs_ne (by omega) ?_ | exact is_of (by assumption) | refine gs_is ?_)) rfl ?_
        refine r_iconst (v := 0) 87 dX7_makeIt_86 rfl (by decide) ?_
        refine r_iload 89 dX7_makeIt_87 rfl rfl ?_
        refine r_iadd 90 dX7_makeIt_89 rfl ?_
        refine r_aload_n 91 dX7_makeIt_90 rfl rfl rfl ?_
        refine r_iconst (v := nI 1) 92 dX7_makeIt_91 rfl (by decide) ?_
        refine r_iload 94 dX7_makeIt_92 rfl rfl ?_
        refine r_callV0 97 dX7_makeIt_94 rfl (tX7_pieceAt oU (hV.s44 hF) hbV (by decide) (by omega)) l_X7_79 mX7_pieceAt rfl (by repeat (first | assumption | refine gs_eq ?_ | refine gs_ne (by omega) ?_ | exact is_of (by assumption) | refine gs_is ?_)) rfl (by decide) (Nat.le_of_ble_eq_true rfl) (by decide) (qI ?_)
        refine r_iast 98 dX7_makeIt_97 rfl (i) (by repeat (first | assumption | refine gs_eq ?_ | refine gs_ne (by omega) ?_ | exact is_of (by assumption) | refine gs_is ?_)) (Int32.zero_add _) (by omega) (by decide) ?_
        refine r_iinc (ls1 := [_, _, _, _, _]) 101 dX7_makeIt_98 rfl (by decide) rfl rfl (nI_1 i) rfl ?_
        refine r_goto 75 dX7_makeIt_101 (by decide) ?_
        refine ih (i + 1) _ _ (by omega) (Fr.tr hF (Fr.st rfl)) (by repeat (first | assumption | refine gs_eq ?_ | refine gs_ne (by omega) ?_ | exact is_of (by assumption) | refine gs_is ?_)) (fun s hs => ?_) (fun j hj => (pk_un (by omega)).trans (hk2 j hj))
        rcases Nat.lt_or_ge s i with h | h
        · exact (pk_un (by omega)).trans (hl2 s h)
        · rw [show s = i by omega]
          exact pk_us
    refine r_iconst (v := nI 0) 73 dX7_makeIt_72 rfl (by decide) ?_
    refine r_istore (ls1 := [_, _, _, _, _]) 75 dX7_makeIt_73 rfl (by decide) rfl rfl ?_
    exact loop 48 0 w2 y (by omega) Fr.rf z2 (fun s hs => by omega) (fun _ _ => rfl)
  refine Cl.of (ls := [some (.ref 43), some (.int (nI k)), none, none, none]) rfl (by decide +kernel) (fun h => by cases h) (Nat.le_of_ble_eq_true rfl) rfl ?_
  refine r_iload_n 1 dX7_makeIt_0 rfl rfl ?_
  refine r_istore_n (ls1 := [_, _, _, _, _]) 2 dX7_makeIt_1 rfl (by decide) rfl rfl ?_
  refine r_aload_n 3 dX7_makeIt_2 rfl rfl rfl ?_
  refine r_iconst (v := nI 0) 4 dX7_makeIt_3 rfl (by decide) ?_
  refine r_aload_n 5 dX7_makeIt_4 rfl rfl rfl ?_
  refine r_getf 8 dX7_makeIt_5 rfl f_X7_39.r (by repeat (first | assumption | refine gs_eq ?_ | refine gs_ne (by omega) ?_ | exact is_of (by assumption) | refine gs_is ?_)) rfl ?_
  refine r_iload_n 9 dX7_makeIt_8 rfl rfl ?_
  refine r_iald 10 dX7_makeIt_9 rfl (1500 * 0 + k) (by repeat (first | assumption | refine gs_eq ?_ | refine gs_ne (by omega) ?_ | exact is_of (by assumption) | refine gs_is ?_)) (by rw [Nat.mul_zero, Nat.zero_add]) (by omega) (by decide) ?_
  rw [e1]
  refine r_callV0 13 dX7_makeIt_10 rfl (tX7_pieceAt ho hW hb (by decide) hg1) l_X7_79 mX7_pieceAt rfl (by repeat (first | assumption | refine gs_eq ?_ | refine gs_ne (by omega) ?_ | exact is_of (by assumption) | refine gs_is ?_)) rfl (by decide) (Nat.le_of_ble_eq_true rfl) (by decide) (qI ?_)
  refine r_callS0 16 dX7_makeIt_13 rfl (tX7_isKing) l_X7_83 mX7_isKing rfl (by decide) (Nat.le_of_ble_eq_true rfl) (by decide) (qI ?_)
  refine r_if_eq 34 19 dX7_makeIt_16 (by decide) rfl (fun q16 => ?_) (fun q16 => ?_)
  · refine r_iconst (v := 0) 35 dX7_makeIt_34 rfl (by decide) ?_
    refine r_istore_n (ls1 := [_, _, _, _, _]) 36 dX7_makeIt_35 rfl (by decide) rfl rfl ?_
    refine r_aload_n 37 dX7_makeIt_36 rfl rfl rfl ?_
    refine r_getf 40 dX7_makeIt_37 rfl f_X7_51.r (by repeat (first | assumption | refine gs_eq ?_ | refine gs_ne (by omega) ?_ | exact is_of (by assumption) | refine gs_is ?_)) rfl ?_
    refine r_iload_n 41 dX7_makeIt_40 rfl rfl ?_
    refine r_iald 42 dX7_makeIt_41 rfl (1500 * 0 + k) (by repeat (first | assumption | refine gs_eq ?_ | refine gs_ne (by omega) ?_ | exact is_of (by assumption) | refine gs_is ?_)) (by rw [Nat.mul_zero, Nat.zero_add]) (by omega) (by decide) ?_
    rw [e5]
    refine r_bipush (v := (-6)) 44 dX7_makeIt_42 rfl (by decide) ?_
    refine r_icmp_eq 66 47 dX7_makeIt_44 (by decide) rfl (fun q44 => ?_) (fun q44 => ?_)
    · first
      | exact absurd q44 q27
      | exact absurd q27 q44
      | (have hlo : loO lo m q = lo := by unfold loO; rw [if_pos q44]
         have hqb : qtB f q = true := by unfold qtB; rw [ne_f q16, decide_eq_true q27]; rfl
         exact tail true hqb.symm w z Fr.rf hz (by rw [hlo]; exact hA))
      | (have hlo : loO lo m q = lo := by unfold loO; rw [if_pos q44]
         have hqb : qtB f q = false := by unfold qtB; rw [bI_0.mp q16]; rfl
         exact tail false hqb.symm w z Fr.rf hz (by rw [hlo]; exact hA))
      | (have hlo : loO lo m q = upd lo (1 - m) (lo (1 - m) + 1) := by unfold loO; rw [if_neg q44]
         have hqb : qtB f q = false := by (unfold qtB; first | (rw [bI_0.mp q16]; rfl) | (rw [decide_eq_false q27, Bool.and_false]))
         exact tail false hqb.symm _ _ (Fr.st rfl) (by repeat (first | assumption | refine gs_eq ?_ | refine gs_ne (by omega) ?_ | exact is_of (by assumption) | refine gs_is ?_)) (by rw [hlo]; exact hB9))
    · refine r_aload_n 48 dX7_makeIt_47 rfl rfl rfl ?_
      refine r_getf 51 dX7_makeIt_48 rfl f_X7_7.r (by repeat (first | assumption | refine gs_eq ?_ | refine gs_ne (by omega) ?_ | exact is_of (by assumption) | refine gs_is ?_)) rfl ?_
      refine r_bipush (v := 56) 53 dX7_makeIt_51 rfl (by decide) ?_
      refine r_aload_n 54 dX7_makeIt_53 rfl rfl rfl ?_
      refine r_getf 57 dX7_makeIt_54 rfl f_X7_7.r (by repeat (first | assumption | refine gs_eq ?_ | refine gs_ne (by omega) ?_ | exact is_of (by assumption) | refine gs_is ?_)) rfl ?_
      refine r_bipush (v := 48) 59 dX7_makeIt_57 rfl (by decide) ?_
      refine r_iald 60 dX7_makeIt_59 rfl (48) (by repeat (first | assumption | refine gs_eq ?_ | refine gs_ne (by omega) ?_ | exact is_of (by assumption) | refine gs_is ?_)) rfl (by decide) (by decide) ?_
      rw [hA.2.1]
      refine r_isub 61 dX7_makeIt_60 rfl ?_
      have ei : (56 : Int32) - nI m = nI (55 + (1 - m)) := by
        rw [show (56 : Int32) = nI 56 from rfl, pk_sub (by omega)]
        congr 1
        omega
      have ez : z (55 + (1 - m)) = lo (1 - m) := by
        rcases side_m hm with rfl | rfl
        · exact hA.2.2.2.2.2.2.2.2.2.1
        · exact hA.2.2.2.2.2.2.2.2.1
      have hB9 : zA (upd z (55 + (1 - m)) (lo (1 - m) + 1)) f (nI m) oc cs cl mk jp (upd lo (1 - m) (lo (1 - m) + 1)) qt P := by
        rcases side_m hm with rfl | rfl
        · exact hA.s56
        · exact hA.s55
      rw [ei]
      refine r_dup2 62 dX7_makeIt_61 rfl rfl rfl ?_
      refine r_iald 63 dX7_makeIt_62 rfl (55 + (1 - m)) (by repeat (first | assumption | refine gs_eq ?_ | refine gs_ne (by omega) ?_ | exact is_of (by assumption) | refine gs_is ?_)) rfl (by omega) (by decide) ?_
      rw [ez]
      refine r_iconst (v := 1) 64 dX7_makeIt_63 rfl (by decide) ?_
      refine r_iadd 65 dX7_makeIt_64 rfl ?_
      refine r_iast 66 dX7_makeIt_65 rfl (55 + (1 - m)) (by repeat (first | assumption | refine gs_eq ?_ | refine gs_ne (by omega) ?_ | exact is_of (by assumption) | refine gs_is ?_)) rfl (by omega) (by decide) ?_
      first
      | exact absurd q44 q27
      | exact absurd q27 q44
      | (have hlo : loO lo m q = lo := by unfold loO; rw [if_pos q44]
         have hqb : qtB f q = true := by unfold qtB; rw [ne_f q16, decide_eq_true q27]; rfl
         exact tail true hqb.symm w z Fr.rf hz (by rw [hlo]; exact hA))
      | (have hlo : loO lo m q = lo := by unfold loO; rw [if_pos q44]
         have hqb : qtB f q = false := by unfold qtB; rw [bI_0.mp q16]; rfl
         exact tail false hqb.symm w z Fr.rf hz (by rw [hlo]; exact hA))
      | (have hlo : loO lo m q = upd lo (1 - m) (lo (1 - m) + 1) := by unfold loO; rw [if_neg q44]
         have hqb : qtB f q = false := by (unfold qtB; first | (rw [bI_0.mp q16]; rfl) | (rw [decide_eq_false q27, Bool.and_false]))
         exact tail false hqb.symm _ _ (Fr.st rfl) (by repeat (first | assumption | refine gs_eq ?_ | refine gs_ne (by omega) ?_ | exact is_of (by assumption) | refine gs_is ?_)) (by rw [hlo]; exact hB9))
  · refine r_aload_n 20 dX7_makeIt_19 rfl rfl rfl ?_
    refine r_getf 23 dX7_makeIt_20 rfl f_X7_51.r (by repeat (first | assumption | refine gs_eq ?_ | refine gs_ne (by omega) ?_ | exact is_of (by assumption) | refine gs_is ?_)) rfl ?_
    refine r_iload_n 24 dX7_makeIt_23 rfl rfl ?_
    refine r_iald 25 dX7_makeIt_24 rfl (1500 * 0 + k) (by repeat (first | assumption | refine gs_eq ?_ | refine gs_ne (by omega) ?_ | exact is_of (by assumption) | refine gs_is ?_)) (by rw [Nat.mul_zero, Nat.zero_add]) (by omega) (by decide) ?_
    rw [e5]
    refine r_bipush (v := (-6)) 27 dX7_makeIt_25 rfl (by decide) ?_
    refine r_icmp_ne 34 30 dX7_makeIt_27 (by decide) rfl (fun q27 => ?_) (fun q27 => ?_)
    · refine r_iconst (v := 0) 35 dX7_makeIt_34 rfl (by decide) ?_
      refine r_istore_n (ls1 := [_, _, _, _, _]) 36 dX7_makeIt_35 rfl (by decide) rfl rfl ?_
      refine r_aload_n 37 dX7_makeIt_36 rfl rfl rfl ?_
      refine r_getf 40 dX7_makeIt_37 rfl f_X7_51.r (by repeat (first | assumption | refine gs_eq ?_ | refine gs_ne (by omega) ?_ | exact is_of (by assumption) | refine gs_is ?_)) rfl ?_
      refine r_iload_n 41 dX7_makeIt_40 rfl rfl ?_
      refine r_iald 42 dX7_makeIt_41 rfl (1500 * 0 + k) (by repeat (first | assumption | refine gs_eq ?_ | refine gs_ne (by omega) ?_ | exact is_of (by assumption) | refine gs_is ?_)) (by rw [Nat.mul_zero, Nat.zero_add]) (by omega) (by decide) ?_
      rw [e5]
      refine r_bipush (v := (-6)) 44 dX7_makeIt_42 rfl (by decide) ?_
      refine r_icmp_eq 66 47 dX7_makeIt_44 (by decide) rfl (fun q44 => ?_) (fun q44 => ?_)
      · first
        | exact absurd q44 q27
        | exact absurd q27 q44
        | (have hlo : loO lo m q = lo := by unfold loO; rw [if_pos q44]
           have hqb : qtB f q = true := by unfold qtB; rw [ne_f q16, decide_eq_true q27]; rfl
           exact tail true hqb.symm w z Fr.rf hz (by rw [hlo]; exact hA))
        | (have hlo : loO lo m q = lo := by unfold loO; rw [if_pos q44]
           have hqb : qtB f q = false := by unfold qtB; rw [bI_0.mp q16]; rfl
           exact tail false hqb.symm w z Fr.rf hz (by rw [hlo]; exact hA))
        | (have hlo : loO lo m q = upd lo (1 - m) (lo (1 - m) + 1) := by unfold loO; rw [if_neg q44]
           have hqb : qtB f q = false := by (unfold qtB; first | (rw [bI_0.mp q16]; rfl) | (rw [decide_eq_false q27, Bool.and_false]))
           exact tail false hqb.symm _ _ (Fr.st rfl) (by repeat (first | assumption | refine gs_eq ?_ | refine gs_ne (by omega) ?_ | exact is_of (by assumption) | refine gs_is ?_)) (by rw [hlo]; exact hB9))
      · refine r_aload_n 48 dX7_makeIt_47 rfl rfl rfl ?_
        refine r_getf 51 dX7_makeIt_48 rfl f_X7_7.r (by repeat (first | assumption | refine gs_eq ?_ | refine gs_ne (by omega) ?_ | exact is_of (by assumption) | refine gs_is ?_)) rfl ?_
        refine r_bipush (v := 56) 53 dX7_makeIt_51 rfl (by decide) ?_
        refine r_aload_n 54 dX7_makeIt_53 rfl rfl rfl ?_
        refine r_getf 57 dX7_makeIt_54 rfl f_X7_7.r (by repeat (first | assumption | refine gs_eq ?_ | refine gs_ne (by omega) ?_ | exact is_of (by assumption) | refine gs_is ?_)) rfl ?_
        refine r_bipush (v := 48) 59 dX7_makeIt_57 rfl (by decide) ?_
        refine r_iald 60 dX7_makeIt_59 rfl (48) (by repeat (first | assumption | refine gs_eq ?_ | refine gs_ne (by omega) ?_ | exact is_of (by assumption) | refine gs_is ?_)) rfl (by decide) (by decide) ?_
        rw [hA.2.1]
        refine r_isub 61 dX7_makeIt_60 rfl ?_
        have ei : (56 : Int32) - nI m = nI (55 + (1 - m)) := by
          rw [show (56 : Int32) = nI 56 from rfl, pk_sub (by omega)]
          congr 1
          omega
        have ez : z (55 + (1 - m)) = lo (1 - m) := by
          rcases side_m hm with rfl | rfl
          · exact hA.2.2.2.2.2.2.2.2.2.1
          · exact hA.2.2.2.2.2.2.2.2.1
        have hB9 : zA (upd z (55 + (1 - m)) (lo (1 - m) + 1)) f (nI m) oc cs cl mk jp (upd lo (1 - m) (lo (1 - m) + 1)) qt P := by
          rcases side_m hm with rfl | rfl
          · exact hA.s56
          · exact hA.s55
        rw [ei]
        refine r_dup2 62 dX7_makeIt_61 rfl rfl rfl ?_
        refine r_iald 63 dX7_makeIt_62 rfl (55 + (1 - m)) (by repeat (first | assumption | refine gs_eq ?_ | refine gs_ne (by omega) ?_ | exact is_of (by assumption) | refine gs_is ?_)) rfl (by omega) (by decide) ?_
        rw [ez]
        refine r_iconst (v := 1) 64 dX7_makeIt_63 rfl (by decide) ?_
        refine r_iadd 65 dX7_makeIt_64 rfl ?_
        refine r_iast 66 dX7_makeIt_65 rfl (55 + (1 - m)) (by repeat (first | assumption | refine gs_eq ?_ | refine gs_ne (by omega) ?_ | exact is_of (by assumption) | refine gs_is ?_)) rfl (by omega) (by decide) ?_
        first
        | exact absurd q44 q27
        | exact absurd q27 q44
        | (have hlo : loO lo m q = lo := by unfold loO; rw [if_pos q44]
           have hqb : qtB f q = true := by unfold qtB; rw [ne_f q16, decide_eq_true q27]; rfl
           exact tail true hqb.symm w z Fr.rf hz (by rw [hlo]; exact hA))
        | (have hlo : loO lo m q = lo := by unfold loO; rw [if_pos q44]
           have hqb : qtB f q = false := by unfold qtB; rw [bI_0.mp q16]; rfl
           exact tail false hqb.symm w z Fr.rf hz (by rw [hlo]; exact hA))
        | (have hlo : loO lo m q = upd lo (1 - m) (lo (1 - m) + 1) := by unfold loO; rw [if_neg q44]
           have hqb : qtB f q = false := by (unfold qtB; first | (rw [bI_0.mp q16]; rfl) | (rw [decide_eq_false q27, Bool.and_false]))
           exact tail false hqb.symm _ _ (Fr.st rfl) (by repeat (first | assumption | refine gs_eq ?_ | refine gs_ne (by omega) ?_ | exact is_of (by assumption) | refine gs_is ?_)) (by rw [hlo]; exact hB9))
    · refine r_iconst (v := 1) 31 dX7_makeIt_30 rfl (by decide) ?_
      refine r_goto 35 dX7_makeIt_31 (by decide) ?_
      refine r_istore_n (ls1 := [_, _, _, _, _]) 36 dX7_makeIt_35 rfl (by decide) rfl rfl ?_
      refine r_aload_n 37 dX7_makeIt_36 rfl rfl rfl ?_
      refine r_getf 40 dX7_makeIt_37 rfl f_X7_51.r (by repeat (first | assumption | refine gs_eq ?_ | refine gs_ne (by omega) ?_ | exact is_of (by assumption) | refine gs_is ?_)) rfl ?_
      refine r_iload_n 41 dX7_makeIt_40 rfl rfl ?_
      refine r_iald 42 dX7_makeIt_41 rfl (1500 * 0 + k) (by repeat (first | assumption | refine gs_eq ?_ | refine gs_ne (by omega) ?_ | exact is_of (by assumption) | refine gs_is ?_)) (by rw [Nat.mul_zero, Nat.zero_add]) (by omega) (by decide) ?_
      rw [e5]
      refine r_bipush (v := (-6)) 44 dX7_makeIt_42 rfl (by decide) ?_
      refine r_icmp_eq 66 47 dX7_makeIt_44 (by decide) rfl (fun q44 => ?_) (fun q44 => ?_)
      · first
        | exact absurd q44 q27
        | exact absurd q27 q44
        | (have hlo : loO lo m q = lo := by unfold loO; rw [if_pos q44]
           have hqb : qtB f q = true := by unfold qtB; rw [ne_f q16, decide_eq_true q27]; rfl
           exact tail true hqb.symm w z Fr.rf hz (by rw [hlo]; exact hA))
        | (have hlo : loO lo m q = lo := by unfold loO; rw [if_pos q44]
           have hqb : qtB f q = false := by unfold qtB; rw [bI_0.mp q16]; rfl
           exact tail false hqb.symm w z Fr.rf hz (by rw [hlo]; exact hA))
        | (have hlo : loO lo m q = upd lo (1 - m) (lo (1 - m) + 1) := by unfold loO; rw [if_neg q44]
           have hqb : qtB f q = false := by (unfold qtB; first | (rw [bI_0.mp q16]; rfl) | (rw [decide_eq_false q27, Bool.and_false]))
           exact tail false hqb.symm _ _ (Fr.st rfl) (by repeat (first | assumption | refine gs_eq ?_ | refine gs_ne (by omega) ?_ | exact is_of (by assumption) | refine gs_is ?_)) (by rw [hlo]; exact hB9))
      · refine r_aload_n 48 dX7_makeIt_47 rfl rfl rfl ?_
        refine r_getf 51 dX7_makeIt_48 rfl f_X7_7.r (by repeat (first | assumption | refine gs_eq ?_ | refine gs_ne (by omega) ?_ | exact is_of (by assumption) | refine gs_is ?_)) rfl ?_
        refine r_bipush (v := 56) 53 dX7_makeIt_51 rfl (by decide) ?_
        refine r_aload_n 54 dX7_makeIt_53 rfl rfl rfl ?_
        refine r_getf 57 dX7_makeIt_54 rfl f_X7_7.r (by repeat (first | assumption | refine gs_eq ?_ | refine gs_ne (by omega) ?_ | exact is_of (by assumption) | refine gs_is ?_)) rfl ?_
        refine r_bipush (v := 48) 59 dX7_makeIt_57 rfl (by decide) ?_
        refine r_iald 60 dX7_makeIt_59 rfl (48) (by repeat (first | assumption | refine gs_eq ?_ | refine gs_ne (by omega) ?_ | exact is_of (by assumption) | refine gs_is ?_)) rfl (by decide) (by decide) ?_
        rw [hA.2.1]
        refine r_isub 61 dX7_makeIt_60 rfl ?_
        have ei : (56 : Int32) - nI m = nI (55 + (1 - m)) := by
          rw [show (56 : Int32) = nI 56 from rfl, pk_sub (by omega)]
          congr 1
          omega
        have ez : z (55 + (1 - m)) = lo (1 - m) := by
          rcases side_m hm with rfl | rfl
          · exact hA.2.2.2.2.2.2.2.2.2.1
          · exact hA.2.2.2.2.2.2.2.2.1
        have hB9 : zA (upd z (55 + (1 - m)) (lo (1 - m) + 1)) f (nI m) oc cs cl mk jp (upd lo (1 - m) (lo (1 - m) + 1)) qt P := by
          rcases side_m hm with rfl | rfl
          · exact hA.s56
          · exact hA.s55
        rw [ei]
        refine r_dup2 62 dX7_makeIt_61 rfl rfl rfl ?_
        refine r_iald 63 dX7_makeIt_62 rfl (55 + (1 - m)) (by repeat (first | assumption | refine gs_eq ?_ | refine gs_ne (by omega) ?_ | exact is_of (by assumption) | refine gs_is ?_)) rfl (by omega) (by decide) ?_
        rw [ez]
        refine r_iconst (v := 1) 64 dX7_makeIt_63 rfl (by decide) ?_
        refine r_iadd 65 dX7_makeIt_64 rfl ?_
        refine r_iast 66 dX7_makeIt_65 rfl (55 + (1 - m)) (by repeat (first | assumption | refine gs_eq ?_ | refine gs_ne (by omega) ?_ | exact is_of (by assumption) | refine gs_is ?_)) rfl (by omega) (by decide) ?_
        first
        | exact absurd q44 q27
        | exact absurd q27 q44
        | (have hlo : loO lo m q = lo := by unfold loO; rw [if_pos q44]
           have hqb : qtB f q = true := by unfold qtB; rw [ne_f q16, decide_eq_true q27]; rfl
           exact tail true hqb.symm w z Fr.rf hz (by rw [hlo]; exact hA))
        | (have hlo : loO lo m q = lo := by unfold loO; rw [if_pos q44]
           have hqb : qtB f q = false := by unfold qtB; rw [bI_0.mp q16]; rfl
           exact tail false hqb.symm w z Fr.rf hz (by rw [hlo]; exact hA))
        | (have hlo : loO lo m q = upd lo (1 - m) (lo (1 - m) + 1) := by unfold loO; rw [if_neg q44]
           have hqb : qtB f q = false := by (unfold qtB; first | (rw [bI_0.mp q16]; rfl) | (rw [decide_eq_false q27, Bool.and_false]))
           exact tail false hqb.symm _ _ (Fr.st rfl) (by repeat (first | assumption | refine gs_eq ?_ | refine gs_ne (by omega) ?_ | exact is_of (by assumption) | refine gs_is ?_)) (by rw [hlo]; exact hB9))

