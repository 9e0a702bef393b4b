/-! ===== the model: jumps and other hops of a piece ===== -/
theorem fe_at {f : Nat → Int32} {s way : Nat} : ∀ (n k K : Nat), k ≤ K → (∀ i, k ≤ i → i < K → f (nk s way i) = -6) → K ≤ k + n → ¬ f (nk s way K) = -6 → fe f s way n k = K
  | 0, k, K, h1, h2, h3, h4 => by unfold fe; omega
  | n + 1, k, K, h1, h2, h3, h4 => by
    unfold fe
    rcases Nat.lt_or_ge k K with h | h
    · rw [if_pos (h2 k (Nat.le_refl _) h)]
      exact fe_at n (k + 1) K h (fun i a b => h2 i (by omega) b) (by omega) h4
    · have e : k = K := by omega
      subst e
      rw [if_neg h4]
theorem fe_end {f : Nat → Int32} {s way : Nat} : ∀ (n k : Nat), (∀ i, k ≤ i → i < k + n → f (nk s way i) = -6) → fe f s way n k = k + n
  | 0, k, h => rfl
  | n + 1, k, h => by
    unfold fe
    rw [if_pos (h k (Nat.le_refl _) (by omega)), fe_end n (k + 1) (fun i a b => h i (by omega) (by omega))]
    omega
/-- where the model's look along a diagonal ends -/
def scE (f : Nat → Int32) (s way k : Nat) : Prop := 1 ≤ k ∧ k ≤ 24 ∧ (∀ i, 1 ≤ i → i < k → f (nk s way i) = -6) ∧ (isKg (f s) = false → k = 1) ∧ (isKg (f s) = true → ¬ f (nk s way k) = -6)
theorem sd_n6 {x : Int32} (h : x = 0 ∨ x = 1) : ¬ (-6 : Int32) = 1 - x := by
  rcases h with rfl | rfl <;> decide
theorem sd_self {x : Int32} (h : x = 0 ∨ x = 1) : ¬ x = 1 - x := by
  rcases h with rfl | rfl <;> decide
theorem scE_fe {f : Nat → Int32} {s way k : Nat} (h : scE f s way k) (h22 : k ≤ 22) : feK f s way = k := by
  obtain ⟨h1, h2, h3, h4, h5⟩ := h
  unfold feK
  by_cases hk : isKg (f s) = true
  · rw [if_pos hk]
    exact fe_at 21 1 k h1 h3 (by omega) (h5 hk)
  · rw [if_neg hk]
    have := h4 (by simpa using hk)
    subst this
    rfl
theorem scE_fe2 {f : Nat → Int32} {s way k : Nat} (h : scE f s way k) (h22 : 22 < k) : isKg (f s) = true ∧ prey f s way = 0 ∨ sdO (f s) ≠ 0 ∧ sdO (f s) ≠ 1 := by
  obtain ⟨h1, h2, h3, h4, h5⟩ := h
  by_cases hk : isKg (f s) = true
  · by_cases hs : sdO (f s) = 0 ∨ sdO (f s) = 1
    · refine Or.inl ⟨hk, prey_n1 ?_⟩
      have e : feK f s way = 22 := by
        unfold feK
        rw [if_pos hk]
        exact fe_end 21 1 (fun i a b => h3 i a (by omega))
      rw [e, h3 22 (by decide) h22, sd_emp]
      exact sd_n6 hs
    · exact Or.inr ⟨fun z => hs (Or.inl z), fun z => hs (Or.inr z)⟩
  · have := h4 (by simpa using hk)
    omega
theorem jAt_n {f : Nat → Int32} {s way k : Nat} (hs : sdO (f s) = 0 ∨ sdO (f s) = 1) (h : scE f s way k) (hn : ¬ sdO (f (nk s way k)) = 1 - sdO (f s)) : jAt f s way = [] := by
  unfold jAt
  rw [if_neg]
  rcases Nat.lt_or_ge 22 k with h22 | h22
  · rcases scE_fe2 h h22 with h9 | h9
    · rw [h9.2]; exact Nat.lt_irrefl 0
    · exact absurd hs (fun z => z.elim h9.1 h9.2)
  · rw [prey_n1 (by rw [scE_fe h h22]; exact hn)]
    exact Nat.lt_irrefl 0
theorem ld_no {f : Nat → Int32} {s way : Nat} {t : Int32} {n k : Nat} (h : ¬ f (nk s way k) = -6) : ld f s way t n k = [] := by
  cases n with
  | zero => rfl
  | succ n => unfold ld; rw [if_neg h]
theorem jAt_y {f : Nat → Int32} {s way k : Nat} (hs48 : s < 48) (hw : way < 4) (hm : mayG (f s) (nI way) = true) (hs : sdO (f s) = 0 ∨ sdO (f s) = 1) (h : scE f s way k) (hy : sdO (f (nk s way k)) = 1 - sdO (f s)) : k ≤ 23 ∧ jAt f s way = ld f s way (nI (nk s way k)) (if isKg (f s) = true then 23 - k else 1) (k + 1) := by
  have hk24 : k ≠ 24 := by
    intro e
    rw [e, nk_lap hs48 hw] at hy
    exact sd_self hs hy
  have hk23 : k ≤ 23 := by have := h.2.1; omega
  refine ⟨hk23, ?_⟩
  rcases Nat.lt_or_ge 22 k with h22 | h22
  · have e : k = 23 := by omega
    subst e
    rcases scE_fe2 h h22 with h9 | h9
    · unfold jAt
      rw [h9.2, if_neg (Nat.lt_irrefl 0), if_pos h9.1]
      rfl
    · exact absurd hs (fun z => z.elim h9.1 h9.2)
  · have hf := scE_fe h h22
    by_cases h2 : f (nk s way (k + 1)) = -6
    · have hp : prey f s way = k := (prey_yes hm (by rw [hf]; exact hy) (by rw [hf]; exact h2)).trans hf
      unfold jAt
      rw [hp, if_pos (show 0 < k from h.1)]
      unfold lands tkO
      rw [if_pos (show 0 < k from h.1)]
      by_cases hk : isKg (f s) = true
      · rw [if_pos hk, if_pos hk]
      · rw [if_neg hk, if_neg hk]
        have := h.2.2.2.1 (by simpa using hk)
        subst this
        rfl
    · rw [ld_no h2]
      unfold jAt
      rw [prey_n2 (by rw [hf]; exact h2), if_neg (Nat.lt_irrefl 0)]
theorem jAt_may {f : Nat → Int32} {s way : Nat} (hm : ¬ mayG (f s) (nI way) = true) : jAt f s way = [] := by
  unfold jAt
  rw [prey_no (by simpa using hm), if_neg (Nat.lt_irrefl 0)]
theorem mAt_may {f : Nat → Int32} {s way : Nat} (hm : ¬ mayG (f s) (nI way) = true) : mAt f s way = [] := by
  unfold mAt
  rw [if_neg hm]
set_option maxRecDepth 100000 in
theorem tX7_listJumps {Γ : CT} {w : PW} {pm ty rm sp wr : Int32} {W : MW} {L s way : Nat} {f : Nat → Int32} {l : List HP} (ho : w[43]? = some (oM pm ty rm sp wr)) (hW : isW w W) (hb : bdA W L f) (hf : okF f) (hls : lsA W L l) (hL : L < 4) (hs : s < 48) (hw : way < 4) (hside : sdO (f s) = 0 ∨ sdO (f s) = 1) (hm : mayG (f s) (nI way) = true) (h192 : (l ++ jAt f s way).length ≤ 192) : Cl Γ yX7_listJumps XX7_listJumps 2 0 0 [.ref 43, .int (nI L), .int (nI s), .int (nI way)] w (rN (toLs w W L (l ++ jAt f s way))) := by
  have land : ∀ (n j : Nat) (u : PW) (b : Bool) (P : List HP) (t : Int32), 2 ≤ j → (isKg (f s) = true → n + j = 24) → (isKg (f s) = false → n + j = 3) → (b = true → 0 < n ∧ f (nk s way j) = -6) → (b = false → ld f s way t n j = []) → P ++ ld f s way t n j = jAt f s way → toLs w W L (l ++ P) u → Rn Γ XX7_listJumps (rmO 2 0 0) none (FinM (rN (toLs w W L (l ++ jAt f s way))) 0 0) 0 0 u 95 [some (.ref 43), some (.int (nI L)), some (.int (nI s)), some (.int (nI way)), some (.int (f s)), some (.int (nI (nk s way j))), some (.int (nI j)), some (.int t), some (.int (bI b))] [] := by
    intro n
    induction n with
    | zero =>
      intro j u b P t h1 hK hM hbt hbf hP hu
      have hb0 : b = false := by
        cases b with
        | false => rfl
        | true => exact absurd (hbt rfl).1 (Nat.lt_irrefl 0)
      subst hb0
      rw [hbf rfl, List.append_nil] at hP
      refine r_iload 97 dX7_listJumps_95 rfl rfl ?_
      refine r_if_eq 152 100 dX7_listJumps_97 (by decide) rfl (fun q97 => ?_) (fun q97 => absurd q97 (by decide))
      refine r_vret dX7_listJumps_152 rfl (by decide) (by decide) ?_
      exact ⟨rfl, by rw [← hP]; exact hu⟩
    | succ n ih =>
      intro j u b P t h1 hK hM hbt hbf hP hu
      have hj23 : j ≤ 23 := by
        cases hk : isKg (f s) with
        | true => have := hK hk; omega
        | false => have := hM hk; omega
      obtain ⟨hF, V, hV, hVl, hVs⟩ := hu
      have oV := (hF.2 43 (by unfold wS; omega)).trans ho
      have hbV := hb.sm hVs.1
      have hlen : (l ++ P).length + (ld f s way t (n + 1) j).length ≤ 192 := by
        rw [← List.length_append, List.append_assoc, hP]
        exact h192
      refine r_iload 97 dX7_listJumps_95 rfl rfl ?_
      refine r_if_eq 152 100 dX7_listJumps_97 (by decide) rfl (fun q97 => ?_) (fun q97 => ?_)
      · refine r_vret dX7_listJumps_152 rfl (by decide) (by decide) ?_
        exact ⟨rfl, by rw [← hP, hbf (bI_0.mp q97), List.append_nil]; exact ⟨hF, V, hV, hVl, hVs⟩⟩
      · have hbt1 : b = true := ne_f q97
        have hemp := (hbt hbt1).2
        have hcons : ld f s way t (n + 1) j = (s, nk s way j, way, j, t) :: ld f s way t n (j + 1) := by
          conv => lhs; unfold ld
          rw [if_pos hemp]
        rw [hcons] at hP hlen
        rw [List.length_cons] at hlen
        refine r_aload_n 101 dX7_listJumps_100 rfl rfl rfl ?_
        refine r_iload_n 102 dX7_listJumps_101 rfl rfl ?_
        refine r_iload_n 103 dX7_listJumps_102 rfl rfl ?_
        refine r_iload_n 104 dX7_listJumps_103 rfl rfl ?_
        refine r_iload 106 dX7_listJumps_104 rfl rfl ?_
        refine r_iload 108 dX7_listJumps_106 rfl rfl ?_
        refine r_iload 110 dX7_listJumps_108 rfl rfl ?_
        refine r_callV0 113 dX7_listJumps_110 rfl (tX7_list (q := (s, nk s way j, way, j, t)) oV hV hVl hL (by omega)) l_X7_97 mX7_list rfl (by repeat (first | assumption | refine gs_eq ?_ | refine gs_ne (by omega) ?_ | exact is_of (by assumption) | refine gs_is ?_)) rfl (by decide) (Nat.le_of_ble_eq_true rfl) (by decide) (qN fun u1 hu1 => ?_)
        obtain ⟨hF1, V1, hV1, hV1l, hV1s⟩ := hu1
        have oV1 := (hF1.2 43 (by unfold wS; omega)).trans oV
        have hbV1 := hbV.sm hV1s.1
        refine r_iload 115 dX7_listJumps_113 rfl rfl ?_
        refine r_iload_n 116 dX7_listJumps_115 rfl rfl ?_
        refine r_callS0 119 dX7_listJumps_116 rfl (tX7_nx (nk_lt hs) hw) l_X7_90 mX7_next rfl (by decide) (Nat.le_of_ble_eq_true rfl) (by decide) (qI ?_)
        have enx : nx (nk s way j) way = nk s way (j + 1) := rfl
        rw [enx]
        refine r_istore (ls1 := [_, _, _, _, _, _, _, _, _]) 121 dX7_listJumps_119 rfl (by decide) rfl rfl ?_
        refine r_iinc (ls1 := [_, _, _, _, _, _, _, _, _]) 124 dX7_listJumps_121 rfl (by decide) rfl rfl (nI_1 j) rfl ?_
        refine r_iload 126 dX7_listJumps_124 rfl rfl ?_
        refine r_callS0 129 dX7_listJumps_126 rfl (tX7_isKing) l_X7_83 mX7_isKing rfl (by decide) (Nat.le_of_ble_eq_true rfl) (by decide) (qI ?_)
        refine r_if_eq 146 132 dX7_listJumps_129 (by decide) rfl (fun q129 => ?_) (fun q129 => ?_)
        · refine r_iconst (v := 0) 147 dX7_listJumps_146 rfl (by decide) ?_
          refine r_istore (ls1 := [_, _, _, _, _, _, _, _, _]) 149 dX7_listJumps_147 rfl (by decide) rfl rfl ?_
          refine r_goto 95 dX7_listJumps_149 (by decide) ?_
          first
          | exact ih (j + 1) u1 true (P ++ [(s, nk s way j, way, j, t)]) t (by omega) (fun z => by have := hK z; omega) (fun z => by have := hM z; omega) (fun _ => ⟨by
              rcases Nat.eq_zero_or_pos n with e | e
              · have h24 : j + 1 = 24 := by have := hK (ne_f q129); omega
                have e5 := of_decide_eq_true (ne_f q139)
                rw [h24, nk_lap hs hw] at e5
                exact absurd e5 (okP_sd hside)
              · exact e, of_decide_eq_true (ne_f q139)⟩) (fun z => by cases z) (by rw [List.append_assoc]; exact hP) (by rw [← List.append_assoc]; exact ⟨hF.tr hF1, V1, hV1, hV1l, hVs.tr hV1s⟩)
          | exact ih (j + 1) u1 false (P ++ [(s, nk s way j, way, j, t)]) t (by omega) (fun z => by have := hK z; omega) (fun z => by have := hM z; omega) (fun z => by cases z) (fun _ => ld_no (of_decide_eq_false (bI_0.mp q139))) (by rw [List.append_assoc]; exact hP) (by rw [← List.append_assoc]; exact ⟨hF.tr hF1, V1, hV1, hV1l, hVs.tr hV1s⟩)
          | exact ih (j + 1) u1 false (P ++ [(s, nk s way j, way, j, t)]) t (by omega) (fun z => by have := hK z; omega) (fun z => by have := hM z; omega) (fun z => by cases z) (fun _ => by
              have := hM (bI_0.mp q129)
              have e : n = 0 := by omega
              rw [e]
              rfl) (by rw [List.append_assoc]; exact hP) (by rw [← List.append_assoc]; exact ⟨hF.tr hF1, V1, hV1, hV1l, hVs.tr hV1s⟩)
        · refine r_aload_n 133 dX7_listJumps_132 rfl rfl rfl ?_
          refine r_iload_n 134 dX7_listJumps_133 rfl rfl ?_
          refine r_iload 136 dX7_listJumps_134 rfl rfl ?_
          refine r_callV0 139 dX7_listJumps_136 rfl (tX7_isEmpty oV1 hV1 hbV1 hL (nk_lt hs)) l_X7_93 mX7_isEmpty rfl (by repeat (first | assumption | refine gs_eq ?_ | refine gs_ne (by omega) ?_ | exact is_of (by assumption) | refine gs_is ?_)) rfl (by decide) (Nat.le_of_ble_eq_true rfl) (by decide) (qI ?_)
          refine r_if_eq 146 142 dX7_listJumps_139 (by decide) rfl (fun q139 => ?_) (fun q139 => ?_)
          · refine r_iconst (v := 0) 147 dX7_listJumps_146 rfl (by decide) ?_
            refine r_istore (ls1 := [_, _, _, _, _, _, _, _, _]) 149 dX7_listJumps_147 rfl (by decide) rfl rfl ?_
            refine r_goto 95 dX7_listJumps_149 (by decide) ?_
            first
            | exact ih (j + 1) u1 true (P ++ [(s, nk s way j, way, j, t)]) t (by omega) (fun z => by have := hK z; omega) (fun z => by have := hM z; omega) (fun _ => ⟨by
                rcases Nat.eq_zero_or_pos n with e | e
                · have h24 : j + 1 = 24 := by have := hK (ne_f q129); omega
                  have e5 := of_decide_eq_true (ne_f q139)
                  rw [h24, nk_lap hs hw] at e5
                  exact absurd e5 (okP_sd hside)
                · exact e, of_decide_eq_true (ne_f q139)⟩) (fun z => by cases z) (by rw [List.append_assoc]; exact hP) (by rw [← List.append_assoc]; exact ⟨hF.tr hF1, V1, hV1, hV1l, hVs.tr hV1s⟩)
            | exact ih (j + 1) u1 false (P ++ [(s, nk s way j, way, j, t)]) t (by omega) (fun z => by have := hK z; omega) (fun z => by have := hM z; omega) (fun z => by cases z) (fun _ => ld_no (of_decide_eq_false (bI_0.mp q139))) (by rw [List.append_assoc]; exact hP) (by rw [← List.append_assoc]; exact ⟨hF.tr hF1, V1, hV1, hV1l, hVs.tr hV1s⟩)
            | exact ih (j + 1) u1 false (P ++ [(s, nk s way j, way, j, t)]) t (by omega) (fun z => by have := hK z; omega) (fun z => by have := hM z; omega) (fun z => by cases z) (fun _ => by
                have := hM (bI_0.mp q129)
                have e : n = 0 := by omega
                rw [e]
                rfl) (by rw [List.append_assoc]; exact hP) (by rw [← List.append_assoc]; exact ⟨hF.tr hF1, V1, hV1, hV1l, hVs.tr hV1s⟩)
          · refine r_iconst (v := 1) 143 dX7_listJumps_142 rfl (by decide) ?_
            refine r_goto 147 dX7_listJumps_143 (by decide) ?_
            refine r_istore (ls1 := [_, _, _, _, _, _, _, _, _]) 149 dX7_listJumps_147 rfl (by decide) rfl rfl ?_
            refine r_goto 95 dX7_listJumps_149 (by decide) ?_
            first
            | exact ih (j + 1) u1 true (P ++ [(s, nk s way j, way, j, t)]) t (by omega) (fun z => by have := hK z; omega) (fun z => by have := hM z; omega) (fun _ => ⟨by
                rcases Nat.eq_zero_or_pos n with e | e
                · have h24 : j + 1 = 24 := by have := hK (ne_f q129); omega
                  have e5 := of_decide_eq_true (ne_f q139)
                  rw [h24, nk_lap hs hw] at e5
                  exact absurd e5 (okP_sd hside)
                · exact e, of_decide_eq_true (ne_f q139)⟩) (fun z => by cases z) (by rw [List.append_assoc]; exact hP) (by rw [← List.append_assoc]; exact ⟨hF.tr hF1, V1, hV1, hV1l, hVs.tr hV1s⟩)
            | exact ih (j + 1) u1 false (P ++ [(s, nk s way j, way, j, t)]) t (by omega) (fun z => by have := hK z; omega) (fun z => by have := hM z; omega) (fun z => by cases z) (fun _ => ld_no (of_decide_eq_false (bI_0.mp q139))) (by rw [List.append_assoc]; exact hP) (by rw [← List.append_assoc]; exact ⟨hF.tr hF1, V1, hV1, hV1l, hVs.tr hV1s⟩)
            | exact ih (j + 1) u1 false (P ++ [(s, nk s way j, way, j, t)]) t (by omega) (fun z => by have := hK z; omega) (fun z => by have := hM z; omega) (fun z => by cases z) (fun _ => by
                have := hM (bI_0.mp q129)
                have e : n = 0 := by omega
                rw [e]
                rfl) (by rw [List.append_assoc]; exact hP) (by rw [← List.append_assoc]; exact ⟨hF.tr hF1, V1, hV1, hV1l, hVs.tr hV1s⟩)
  have goods : ∀ (k : Nat) (x7 x8 : Option Value), scE f s way k → Rn Γ XX7_listJumps (rmO 2 0 0) none (FinM (rN (toLs w W L (l ++ jAt f s way))) 0 0) 0 0 w 50 [some (.ref 43), some (.int (nI L)), some (.int (nI s)), some (.int (nI way)), some (.int (f s)), some (.int (nI (nk s way k))), some (.int (nI k)), x7, x8] [] := by
    intro k x7 x8 hE
    refine r_aload_n 51 dX7_listJumps_50 rfl rfl rfl ?_
    refine r_iload_n 52 dX7_listJumps_51 rfl rfl ?_
    refine r_iload 54 dX7_listJumps_52 rfl rfl ?_
    refine r_callV0 57 dX7_listJumps_54 rfl (tX7_pieceAt ho hW hb hL (nk_lt hs)) l_X7_79 mX7_pieceAt rfl (by repeat (first | assumption | refine gs_eq ?_ | refine gs_ne (by omega) ?_ | exact is_of (by assumption) | refine gs_is ?_)) rfl (by decide) (Nat.le_of_ble_eq_true rfl) (by decide) (qI ?_)
    refine r_callS0 60 dX7_listJumps_57 rfl (tX7_sd (hf _ (nk_lt hs))) l_X7_87 mX7_sideOf rfl (by decide) (Nat.le_of_ble_eq_true rfl) (by decide) (qI ?_)
    refine r_iconst (v := 1) 61 dX7_listJumps_60 rfl (by decide) ?_
    refine r_iload 63 dX7_listJumps_61 rfl rfl ?_
    refine r_callS0 66 dX7_listJumps_63 rfl (tX7_sd (hf _ hs)) l_X7_87 mX7_sideOf rfl (by decide) (Nat.le_of_ble_eq_true rfl) (by decide) (qI ?_)
    refine r_isub 67 dX7_listJumps_66 rfl ?_
    refine r_icmp_eq 71 70 dX7_listJumps_67 (by decide) rfl (fun q67 => ?_) (fun q67 => ?_)
    · refine r_iload 73 dX7_listJumps_71 rfl rfl ?_
      refine r_istore (ls1 := [_, _, _, _, _, _, _, _, _]) 75 dX7_listJumps_73 rfl (by decide) rfl rfl ?_
      refine r_iload 77 dX7_listJumps_75 rfl rfl ?_
      refine r_iload_n 78 dX7_listJumps_77 rfl rfl ?_
      refine r_callS0 81 dX7_listJumps_78 rfl (tX7_nx (nk_lt hs) hw) l_X7_90 mX7_next rfl (by decide) (Nat.le_of_ble_eq_true rfl) (by decide) (qI ?_)
      have enx : nx (nk s way k) way = nk s way (k + 1) := rfl
      rw [enx]
      refine r_istore (ls1 := [_, _, _, _, _, _, _, _, _]) 83 dX7_listJumps_81 rfl (by decide) rfl rfl ?_
      refine r_iinc (ls1 := [_, _, _, _, _, _, _, _, _]) 86 dX7_listJumps_83 rfl (by decide) rfl rfl (nI_1 k) rfl ?_
      refine r_aload_n 87 dX7_listJumps_86 rfl rfl rfl ?_
      refine r_iload_n 88 dX7_listJumps_87 rfl rfl ?_
      refine r_iload 90 dX7_listJumps_88 rfl rfl ?_
      refine r_callV0 93 dX7_listJumps_90 rfl (tX7_isEmpty ho hW hb hL (nk_lt hs)) l_X7_93 mX7_isEmpty rfl (by repeat (first | assumption | refine gs_eq ?_ | refine gs_ne (by omega) ?_ | exact is_of (by assumption) | refine gs_is ?_)) rfl (by decide) (Nat.le_of_ble_eq_true rfl) (by decide) (qI ?_)
      refine r_istore (ls1 := [_, _, _, _, _, _, _, _, _]) 95 dX7_listJumps_93 rfl (by decide) rfl rfl ?_
      obtain ⟨hk23, hy⟩ := jAt_y hs hw hm hside hE q67
      refine land (if isKg (f s) = true then 23 - k else 1) (k + 1) w (decide (f (nk s way (k + 1)) = -6)) [] (nI (nk s way k)) (by have := hE.1; omega) (fun z => by rw [if_pos z]; omega) (fun z => by rw [if_neg (by rw [z]; decide)]; have := hE.2.2.2.1 z; omega) (fun z => ?_) (fun z => ld_no (of_decide_eq_false z)) (by rw [List.nil_append]; exact hy.symm) (by rw [List.append_nil]; exact ⟨Fr.rf, W, hW, hls, smL.rf⟩)
      have z6 := of_decide_eq_true z
      refine ⟨?_, z6⟩
      split
      · rcases Nat.lt_or_ge k 23 with h | h
        · omega
        · have e : k + 1 = 24 := by omega
          rw [e, nk_lap hs hw] at z6
          exact absurd z6 (okP_sd hside)
      · decide
    · refine r_vret dX7_listJumps_70 rfl (by decide) (by decide) ?_
      exact ⟨rfl, by rw [jAt_n hside hE q67, List.append_nil]; exact ⟨Fr.rf, W, hW, hls, smL.rf⟩⟩
  have scan : ∀ (m k : Nat) (x7 x8 : Option Value), k + m = 24 → 1 ≤ k → (∀ i, 1 ≤ i → i < k → f (nk s way i) = -6) → (isKg (f s) = false → k = 1) → Rn Γ XX7_listJumps (rmO 2 0 0) none (FinM (rN (toLs w W L (l ++ jAt f s way))) 0 0) 0 0 w 18 [some (.ref 43), some (.int (nI L)), some (.int (nI s)), some (.int (nI way)), some (.int (f s)), some (.int (nI (nk s way k))), some (.int (nI k)), x7, x8] [] := by
    intro m
    induction m with
    | zero =>
      intro k x7 x8 hi h1 h3 h4
      have h24 : k = 24 := by omega
      have hnn : ¬ f (nk s way k) = -6 := by rw [h24, nk_lap hs hw]; exact okP_sd hside
      refine r_iload 20 dX7_listJumps_18 rfl rfl ?_
      refine r_callS0 23 dX7_listJumps_20 rfl (tX7_isKing) l_X7_83 mX7_isKing rfl (by decide) (Nat.le_of_ble_eq_true rfl) (by decide) (qI ?_)
      refine r_if_eq 50 26 dX7_listJumps_23 (by decide) rfl (fun q23 => ?_) (fun q23 => ?_)
      · exact goods k x7 x8 ⟨h1, by omega, h3, h4, fun _ => hnn⟩
      · refine r_aload_n 27 dX7_listJumps_26 rfl rfl rfl ?_
        refine r_iload_n 28 dX7_listJumps_27 rfl rfl ?_
        refine r_iload 30 dX7_listJumps_28 rfl rfl ?_
        refine r_callV0 33 dX7_listJumps_30 rfl (tX7_isEmpty ho hW hb hL (nk_lt hs)) l_X7_93 mX7_isEmpty rfl (by repeat (first | assumption | refine gs_eq ?_ | refine gs_ne (by omega) ?_ | exact is_of (by assumption) | refine gs_is ?_)) rfl (by decide) (Nat.le_of_ble_eq_true rfl) (by decide) (qI ?_)
        refine r_if_eq 50 36 dX7_listJumps_33 (by decide) rfl (fun q33 => ?_) (fun q33 => absurd q33 (by rw [bI_no hnn]; decide))
        exact goods k x7 x8 ⟨h1, by omega, h3, h4, fun _ => hnn⟩
    | succ m ih =>
      intro k x7 x8 hi h1 h3 h4
      refine r_iload 20 dX7_listJumps_18 rfl rfl ?_
      refine r_callS0 23 dX7_listJumps_20 rfl (tX7_isKing) l_X7_83 mX7_isKing rfl (by decide) (Nat.le_of_ble_eq_true rfl) (by decide) (qI ?_)
      refine r_if_eq 50 26 dX7_listJumps_23 (by decide) rfl (fun q23 => ?_) (fun q23 => ?_)
      · first | exact goods k x7 x8 ⟨h1, by omega, h3, h4, fun _ => of_decide_eq_false (bI_0.mp q33)⟩ | exact goods k x7 x8 ⟨h1, by omega, h3, h4, fun z => absurd z (eq_f q23)⟩
      · refine r_aload_n 27 dX7_listJumps_26 rfl rfl rfl ?_
        refine r_iload_n 28 dX7_listJumps_27 rfl rfl ?_
        refine r_iload 30 dX7_listJumps_28 rfl rfl ?_
        refine r_callV0 33 dX7_listJumps_30 rfl (tX7_isEmpty ho hW hb hL (nk_lt hs)) l_X7_93 mX7_isEmpty rfl (by repeat (first | assumption | refine gs_eq ?_ | refine gs_ne (by omega) ?_ | exact is_of (by assumption) | refine gs_is ?_)) rfl (by decide) (Nat.le_of_ble_eq_true rfl) (by decide) (qI ?_)
        refine r_if_eq 50 36 dX7_listJumps_33 (by decide) rfl (fun q33 => ?_) (fun q33 => ?_)
        · first | exact goods k x7 x8 ⟨h1, by omega, h3, h4, fun _ => of_decide_eq_false (bI_0.mp q33)⟩ | exact goods k x7 x8 ⟨h1, by omega, h3, h4, fun z => absurd z (eq_f q23)⟩
        · refine r_iload 38 dX7_listJumps_36 rfl rfl ?_
          refine r_iload_n 39 dX7_listJumps_38 rfl rfl ?_
          refine r_callS0 42 dX7_listJumps_39 rfl (tX7_nx (nk_lt hs) hw) l_X7_90 mX7_next rfl (by decide) (Nat.le_of_ble_eq_true rfl) (by decide) (qI ?_)
          refine r_istore (ls1 := [_, _, _, _, _, _, _, _, _]) 44 dX7_listJumps_42 rfl (by decide) rfl rfl ?_
          refine r_iinc (ls1 := [_, _, _, _, _, _, _, _, _]) 47 dX7_listJumps_44 rfl (by decide) rfl rfl (nI_1 k) rfl ?_
          refine r_goto 18 dX7_listJumps_47 (by decide) ?_
          exact ih (k + 1) x7 x8 (by omega) (by omega) (fun i a b => by rcases Nat.lt_or_ge i k with h | h; exact h3 i a h; rw [show i = k by omega]; exact of_decide_eq_true (ne_f q33)) (fun z => absurd (ne_f q23) (by rw [z]; decide))
  refine Cl.of (ls := [some (.ref 43), some (.int (nI L)), some (.int (nI s)), some (.int (nI way)), none, none, none, none, none]) rfl (by decide +kernel) (fun h => by cases h) (Nat.le_of_ble_eq_true rfl) rfl ?_
  refine r_aload_n 1 dX7_listJumps_0 rfl rfl rfl ?_
  refine r_iload_n 2 dX7_listJumps_1 rfl rfl ?_
  refine r_iload_n 3 dX7_listJumps_2 rfl rfl ?_
  refine r_callV0 6 dX7_listJumps_3 rfl (tX7_pieceAt ho hW hb hL hs) l_X7_79 mX7_pieceAt rfl (by repeat (first | assumption | refine gs_eq ?_ | refine gs_ne (by omega) ?_ | exact is_of (by assumption) | refine gs_is ?_)) rfl (by decide) (Nat.le_of_ble_eq_true rfl) (by decide) (qI ?_)
  refine r_istore (ls1 := [_, _, _, _, _, _, _, _, _]) 8 dX7_listJumps_6 rfl (by decide) rfl rfl ?_
  refine r_iload_n 9 dX7_listJumps_8 rfl rfl ?_
  refine r_iload_n 10 dX7_listJumps_9 rfl rfl ?_
  refine r_callS0 13 dX7_listJumps_10 rfl (tX7_nx hs hw) l_X7_90 mX7_next rfl (by decide) (Nat.le_of_ble_eq_true rfl) (by decide) (qI ?_)
  refine r_istore (ls1 := [_, _, _, _, _, _, _, _, _]) 15 dX7_listJumps_13 rfl (by decide) rfl rfl ?_
  refine r_iconst (v := nI 1) 16 dX7_listJumps_15 rfl (by decide) ?_
  refine r_istore (ls1 := [_, _, _, _, _, _, _, _, _]) 18 dX7_listJumps_16 rfl (by decide) rfl rfl ?_
  exact scan 23 1 _ _ (by decide) (Nat.le_refl 1) (fun i a b => by omega) (fun _ => rfl)

set_option maxRecDepth 100000 in
theorem tX7_listMoves {Γ : CT} {w : PW} {pm ty rm sp wr : Int32} {W : MW} {L s way : Nat} {f : Nat → Int32} {l : List HP} (ho : w[43]? = some (oM pm ty rm sp wr)) (hW : isW w W) (hb : bdA W L f) (hf : okF f) (hls : lsA W L l) (hL : L < 4) (hs : s < 48) (hw : way < 4) (hside : sdO (f s) = 0 ∨ sdO (f s) = 1) (hm : mayG (f s) (nI way) = true) (h192 : (l ++ mAt f s way).length ≤ 192) : Cl Γ yX7_listMoves XX7_listMoves 2 0 0 [.ref 43, .int (nI L), .int (nI s), .int (nI way)] w (rN (toLs w W L (l ++ mAt f s way))) := by
  have land : ∀ (n j : Nat) (u : PW) (b : Bool) (P : List HP) , 1 ≤ j → (isKg (f s) = true → n + j = 24) → (isKg (f s) = false → n + j = 2) → (b = true → 0 < n ∧ f (nk s way j) = -6) → (b = false → ld f s way (-6) n j = []) → P ++ ld f s way (-6) n j = mAt f s way → toLs w W L (l ++ P) u → Rn Γ XX7_listMoves (rmO 2 0 0) none (FinM (rN (toLs w W L (l ++ mAt f s way))) 0 0) 0 0 u 30 [some (.ref 43), some (.int (nI L)), some (.int (nI s)), some (.int (nI way)), some (.int (bI (isKg (f s)))), some (.int (nI (nk s way j))), some (.int (nI j)), some (.int (bI b))] [] := by
    intro n
    induction n with
    | zero =>
      intro j u b P  h1 hK hM hbt hbf hP hu
      have hb0 : b = false := by
        cases b with
        | false => rfl
        | true => exact absurd (hbt rfl).1 (Nat.lt_irrefl 0)
      subst hb0
      rw [hbf rfl, List.append_nil] at hP
      refine r_iload 32 dX7_listMoves_30 rfl rfl ?_
      refine r_if_eq 84 35 dX7_listMoves_32 (by decide) rfl (fun q32 => ?_) (fun q32 => absurd q32 (by decide))
      refine r_vret dX7_listMoves_84 rfl (by decide) (by decide) ?_
      exact ⟨rfl, by rw [← hP]; exact hu⟩
    | succ n ih =>
      intro j u b P  h1 hK hM hbt hbf hP hu
      have hj23 : j ≤ 23 := by
        cases hk : isKg (f s) with
        | true => have := hK hk; omega
        | false => have := hM hk; omega
      obtain ⟨hF, V, hV, hVl, hVs⟩ := hu
      have oV := (hF.2 43 (by unfold wS; omega)).trans ho
      have hbV := hb.sm hVs.1
      have hlen : (l ++ P).length + (ld f s way (-6) (n + 1) j).length ≤ 192 := by
        rw [← List.length_append, List.append_assoc, hP]
        exact h192
      refine r_iload 32 dX7_listMoves_30 rfl rfl ?_
      refine r_if_eq 84 35 dX7_listMoves_32 (by decide) rfl (fun q32 => ?_) (fun q32 => ?_)
      · refine r_vret dX7_listMoves_84 rfl (by decide) (by decide) ?_
        exact ⟨rfl, by rw [← hP, hbf (bI_0.mp q32), List.append_nil]; exact ⟨hF, V, hV, hVl, hVs⟩⟩
      · have hbt1 : b = true := ne_f q32
        have hemp := (hbt hbt1).2
        have hcons : ld f s way (-6) (n + 1) j = (s, nk s way j, way, j, (-6)) :: ld f s way (-6) n (j + 1) := by
          conv => lhs; unfold ld
          rw [if_pos hemp]
        rw [hcons] at hP hlen
        rw [List.length_cons] at hlen
        refine r_aload_n 36 dX7_listMoves_35 rfl rfl rfl ?_
        refine r_iload_n 37 dX7_listMoves_36 rfl rfl ?_
        refine r_iload_n 38 dX7_listMoves_37 rfl rfl ?_
        refine r_iload_n 39 dX7_listMoves_38 rfl rfl ?_
        refine r_iload 41 dX7_listMoves_39 rfl rfl ?_
        refine r_iload 43 dX7_listMoves_41 rfl rfl ?_
        refine r_bipush (v := (-6)) 45 dX7_listMoves_43 rfl (by decide) ?_
        refine r_callV0 48 dX7_listMoves_45 rfl (tX7_list (q := (s, nk s way j, way, j, (-6))) oV hV hVl hL (by omega)) l_X7_97 mX7_list rfl (by repeat (first | assumption | refine gs_eq ?_ | refine gs_ne (by omega) ?_ | exact is_of (by assumption) | refine gs_is ?_)) rfl (by decide) (Nat.le_of_ble_eq_true rfl) (by decide) (qN fun u1 hu1 => ?_)
        obtain ⟨hF1, V1, hV1, hV1l, hV1s⟩ := hu1
        have oV1 := (hF1.2 43 (by unfold wS; omega)).trans oV
        have hbV1 := hbV.sm hV1s.1
        refine r_iload 50 dX7_listMoves_48 rfl rfl ?_
        refine r_iload_n 51 dX7_listMoves_50 rfl rfl ?_
        refine r_callS0 54 dX7_listMoves_51 rfl (tX7_nx (nk_lt hs) hw) l_X7_90 mX7_next rfl (by decide) (Nat.le_of_ble_eq_true rfl) (by decide) (qI ?_)
        have enx : nx (nk s way j) way = nk s way (j + 1) := rfl
        rw [enx]
        refine r_istore (ls1 := [_, _, _, _, _, _, _, _]) 56 dX7_listMoves_54 rfl (by decide) rfl rfl ?_
        refine r_iinc (ls1 := [_, _, _, _, _, _, _, _]) 59 dX7_listMoves_56 rfl (by decide) rfl rfl (nI_1 j) rfl ?_
        refine r_iload 61 dX7_listMoves_59 rfl rfl ?_
        refine r_if_eq 78 64 dX7_listMoves_61 (by decide) rfl (fun q61 => ?_) (fun q61 => ?_)
        · refine r_iconst (v := 0) 79 dX7_listMoves_78 rfl (by decide) ?_
          refine r_istore (ls1 := [_, _, _, _, _, _, _, _]) 81 dX7_listMoves_79 rfl (by decide) rfl rfl ?_
          refine r_goto 30 dX7_listMoves_81 (by decide) ?_
          first
          | exact ih (j + 1) u1 true (P ++ [(s, nk s way j, way, j, (-6))]) (by omega) (fun z => by have := hK z; omega) (fun z => by have := hM z; omega) (fun _ => ⟨by
              rcases Nat.eq_zero_or_pos n with e | e
              · have h24 : j + 1 = 24 := by have := hK (ne_f q61); omega
                have e5 := of_decide_eq_true (ne_f q71)
                rw [h24, nk_lap hs hw] at e5
                exact absurd e5 (okP_sd hside)
              · exact e, of_decide_eq_true (ne_f q71)⟩) (fun z => by cases z) (by rw [List.append_assoc]; exact hP) (by rw [← List.append_assoc]; exact ⟨hF.tr hF1, V1, hV1, hV1l, hVs.tr hV1s⟩)
          | exact ih (j + 1) u1 false (P ++ [(s, nk s way j, way, j, (-6))]) (by omega) (fun z => by have := hK z; omega) (fun z => by have := hM z; omega) (fun z => by cases z) (fun _ => ld_no (of_decide_eq_false (bI_0.mp q71))) (by rw [List.append_assoc]; exact hP) (by rw [← List.append_assoc]; exact ⟨hF.tr hF1, V1, hV1, hV1l, hVs.tr hV1s⟩)
          | exact ih (j + 1) u1 false (P ++ [(s, nk s way j, way, j, (-6))]) (by omega) (fun z => by have := hK z; omega) (fun z => by have := hM z; omega) (fun z => by cases z) (fun _ => by
              have := hM (bI_0.mp q61)
              have e : n = 0 := by omega
              rw [e]
              rfl) (by rw [List.append_assoc]; exact hP) (by rw [← List.append_assoc]; exact ⟨hF.tr hF1, V1, hV1, hV1l, hVs.tr hV1s⟩)
        · refine r_aload_n 65 dX7_listMoves_64 rfl rfl rfl ?_
          refine r_iload_n 66 dX7_listMoves_65 rfl rfl ?_
          refine r_iload 68 dX7_listMoves_66 rfl rfl ?_
          refine r_callV0 71 dX7_listMoves_68 rfl (tX7_isEmpty oV1 hV1 hbV1 hL (nk_lt hs)) l_X7_93 mX7_isEmpty rfl (by repeat (first | assumption | refine gs_eq ?_ | refine gs_ne (by omega) ?_ | exact is_of (by assumption) | refine gs_is ?_)) rfl (by decide) (Nat.le_of_ble_eq_true rfl) (by decide) (qI ?_)
          refine r_if_eq 78 74 dX7_listMoves_71 (by decide) rfl (fun q71 => ?_) (fun q71 => ?_)
          · refine r_iconst (v := 0) 79 dX7_listMoves_78 rfl (by decide) ?_
            refine r_istore (ls1 := [_, _, _, _, _, _, _, _]) 81 dX7_listMoves_79 rfl (by decide) rfl rfl ?_
            refine r_goto 30 dX7_listMoves_81 (by decide) ?_
            first
            | exact ih (j + 1) u1 true (P ++ [(s, nk s way j, way, j, (-6))]) (by omega) (fun z => by have := hK z; omega) (fun z => by have := hM z; omega) (fun _ => ⟨by
                rcases Nat.eq_zero_or_pos n with e | e
                · have h24 : j + 1 = 24 := by have := hK (ne_f q61); omega
                  have e5 := of_decide_eq_true (ne_f q71)
                  rw [h24, nk_lap hs hw] at e5
                  exact absurd e5 (okP_sd hside)
                · exact e, of_decide_eq_true (ne_f q71)⟩) (fun z => by cases z) (by rw [List.append_assoc]; exact hP) (by rw [← List.append_assoc]; exact ⟨hF.tr hF1, V1, hV1, hV1l, hVs.tr hV1s⟩)
            | exact ih (j + 1) u1 false (P ++ [(s, nk s way j, way, j, (-6))]) (by omega) (fun z => by have := hK z; omega) (fun z => by have := hM z; omega) (fun z => by cases z) (fun _ => ld_no (of_decide_eq_false (bI_0.mp q71))) (by rw [List.append_assoc]; exact hP) (by rw [← List.append_assoc]; exact ⟨hF.tr hF1, V1, hV1, hV1l, hVs.tr hV1s⟩)
            | exact ih (j + 1) u1 false (P ++ [(s, nk s way j, way, j, (-6))]) (by omega) (fun z => by have := hK z; omega) (fun z => by have := hM z; omega) (fun z => by cases z) (fun _ => by
                have := hM (bI_0.mp q61)
                have e : n = 0 := by omega
                rw [e]
                rfl) (by rw [List.append_assoc]; exact hP) (by rw [← List.append_assoc]; exact ⟨hF.tr hF1, V1, hV1, hV1l, hVs.tr hV1s⟩)
          · refine r_iconst (v := 1) 75 dX7_listMoves_74 rfl (by decide) ?_
            refine r_goto 79 dX7_listMoves_75 (by decide) ?_
            refine r_istore (ls1 := [_, _, _, _, _, _, _, _]) 81 dX7_listMoves_79 rfl (by decide) rfl rfl ?_
            refine r_goto 30 dX7_listMoves_81 (by decide) ?_
            first
            | exact ih (j + 1) u1 true (P ++ [(s, nk s way j, way, j, (-6))]) (by omega) (fun z => by have := hK z; omega) (fun z => by have := hM z; omega) (fun _ => ⟨by
                rcases Nat.eq_zero_or_pos n with e | e
                · have h24 : j + 1 = 24 := by have := hK (ne_f q61); omega
                  have e5 := of_decide_eq_true (ne_f q71)
                  rw [h24, nk_lap hs hw] at e5
                  exact absurd e5 (okP_sd hside)
                · exact e, of_decide_eq_true (ne_f q71)⟩) (fun z => by cases z) (by rw [List.append_assoc]; exact hP) (by rw [← List.append_assoc]; exact ⟨hF.tr hF1, V1, hV1, hV1l, hVs.tr hV1s⟩)
            | exact ih (j + 1) u1 false (P ++ [(s, nk s way j, way, j, (-6))]) (by omega) (fun z => by have := hK z; omega) (fun z => by have := hM z; omega) (fun z => by cases z) (fun _ => ld_no (of_decide_eq_false (bI_0.mp q71))) (by rw [List.append_assoc]; exact hP) (by rw [← List.append_assoc]; exact ⟨hF.tr hF1, V1, hV1, hV1l, hVs.tr hV1s⟩)
            | exact ih (j + 1) u1 false (P ++ [(s, nk s way j, way, j, (-6))]) (by omega) (fun z => by have := hK z; omega) (fun z => by have := hM z; omega) (fun z => by cases z) (fun _ => by
                have := hM (bI_0.mp q61)
                have e : n = 0 := by omega
                rw [e]
                rfl) (by rw [List.append_assoc]; exact hP) (by rw [← List.append_assoc]; exact ⟨hF.tr hF1, V1, hV1, hV1l, hVs.tr hV1s⟩)
  refine Cl.of (ls := [some (.ref 43), some (.int (nI L)), some (.int (nI s)), some (.int (nI way)), none, none, none, none]) rfl (by decide +kernel) (fun h => by cases h) (Nat.le_of_ble_eq_true rfl) rfl ?_
  refine r_aload_n 1 dX7_listMoves_0 rfl rfl rfl ?_
  refine r_iload_n 2 dX7_listMoves_1 rfl rfl ?_
  refine r_iload_n 3 dX7_listMoves_2 rfl rfl ?_
  refine r_callV0 6 dX7_listMoves_3 rfl (tX7_pieceAt ho hW hb hL hs) l_X7_79 mX7_pieceAt rfl (by repeat (first | assumption | refine gs_eq ?_ | refine gs_ne (by omega) ?_ | exact is_of (by assumption) | refine gs_is ?_)) rfl (by decide) (Nat.le_of_ble_eq_true rfl) (by decide) (qI ?_)
  refine r_callS0 9 dX7_listMoves_6 rfl (tX7_isKing) l_X7_83 mX7_isKing rfl (by decide) (Nat.le_of_ble_eq_true rfl) (by decide) (qI ?_)
  refine r_istore (ls1 := [_, _, _, _, _, _, _, _]) 11 dX7_listMoves_9 rfl (by decide) rfl rfl ?_
  refine r_iload_n 12 dX7_listMoves_11 rfl rfl ?_
  refine r_iload_n 13 dX7_listMoves_12 rfl rfl ?_
  refine r_callS0 16 dX7_listMoves_13 rfl (tX7_nx hs hw) l_X7_90 mX7_next rfl (by decide) (Nat.le_of_ble_eq_true rfl) (by decide) (qI ?_)
  refine r_istore (ls1 := [_, _, _, _, _, _, _, _]) 18 dX7_listMoves_16 rfl (by decide) rfl rfl ?_
  refine r_iconst (v := nI 1) 19 dX7_listMoves_18 rfl (by decide) ?_
  refine r_istore (ls1 := [_, _, _, _, _, _, _, _]) 21 dX7_listMoves_19 rfl (by decide) rfl rfl ?_
  refine r_aload_n 22 dX7_listMoves_21 rfl rfl rfl ?_
  refine r_iload_n 23 dX7_listMoves_22 rfl rfl ?_
  refine r_iload 25 dX7_listMoves_23 rfl rfl ?_
  refine r_callV0 28 dX7_listMoves_25 rfl (tX7_isEmpty ho hW hb hL (nx_lt _ _)) l_X7_93 mX7_isEmpty rfl (by repeat (first | assumption | refine gs_eq ?_ | refine gs_ne (by omega) ?_ | exact is_of (by assumption) | refine gs_is ?_)) rfl (by decide) (Nat.le_of_ble_eq_true rfl) (by decide) (qI ?_)
  refine r_istore (ls1 := [_, _, _, _, _, _, _, _]) 30 dX7_listMoves_28 rfl (by decide) rfl rfl ?_
  have hma : mAt f s way = ld f s way (-6) (if isKg (f s) = true then 23 else 1) 1 := by
    unfold mAt
    rw [if_pos hm]
    rfl
  refine land (if isKg (f s) = true then 23 else 1) 1 w (decide (f (nx s way) = -6)) [] (Nat.le_refl 1) (fun z => by rw [if_pos z]) (fun z => by rw [if_neg (by rw [z]; decide)]) (fun z => ⟨by split <;> decide, of_decide_eq_true z⟩) (fun z => ld_no (of_decide_eq_false z)) (by rw [List.nil_append]; exact hma.symm) (by rw [List.append_nil]; exact ⟨Fr.rf, W, hW, hls, smL.rf⟩)

