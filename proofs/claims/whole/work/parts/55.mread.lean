/-! ===== how the model reads the pad: the walks ===== -/
set_option maxRecDepth 100000 in
theorem tX7_letter {Γ : CT} {w : PW} {pm rm wr : Int32} {pf : Nat → Int32} {pn s : Nat} (ho : w[43]? = some (oM pm (nI pn) rm (nI s) wr)) (hp : w[48]? = some (aC 60 pf)) (hpn : pn ≤ 60) (hs : s ≤ 1000) : Cl Γ yX7_letter XX7_letter 0 0 0 [.ref 43] w (rI (letO pf pn s) w) := by
  refine Cl.of (ls := [some (.ref 43)]) rfl (by decide +kernel) (fun h => by cases h) (Nat.le_of_ble_eq_true rfl) rfl ?_
  refine r_aload_n 1 dX7_letter_0 rfl rfl rfl ?_
  refine r_getf 4 dX7_letter_1 rfl f_X7_200.r (by repeat (first | assumption | refine gs_eq ?_ | refine gs_ne (by omega) ?_ | exact is_of (by assumption) | refine gs_is ?_)) rfl ?_
  refine r_aload_n 5 dX7_letter_4 rfl rfl rfl ?_
  refine r_getf 8 dX7_letter_5 rfl f_X7_174.r (by repeat (first | assumption | refine gs_eq ?_ | refine gs_ne (by omega) ?_ | exact is_of (by assumption) | refine gs_is ?_)) rfl ?_
  refine r_icmp_ge 23 11 dX7_letter_8 (by decide) rfl (fun q8 => ?_) (fun q8 => ?_)
  · refine r_bipush (v := (-6)) 25 dX7_letter_23 rfl (by decide) ?_
    refine r_iret dX7_letter_25 rfl (by decide) (by decide) ?_
    first
    | exact ⟨by rw [letO_lt h9], rfl⟩
    | exact ⟨by rw [letO_ge ((nI_leI (by omega) (by omega)).mp q8)], rfl⟩
  · have h9 : s < pn := by
      rcases Nat.lt_or_ge s pn with h9 | h9
      · exact h9
      · exact absurd (nI_le h9 (by omega)) q8
    refine r_aload_n 12 dX7_letter_11 rfl rfl rfl ?_
    refine r_getf 15 dX7_letter_12 rfl f_X7_23.r (by repeat (first | assumption | refine gs_eq ?_ | refine gs_ne (by omega) ?_ | exact is_of (by assumption) | refine gs_is ?_)) rfl ?_
    refine r_aload_n 16 dX7_letter_15 rfl rfl rfl ?_
    refine r_getf 19 dX7_letter_16 rfl f_X7_200.r (by repeat (first | assumption | refine gs_eq ?_ | refine gs_ne (by omega) ?_ | exact is_of (by assumption) | refine gs_is ?_)) rfl ?_
    refine r_cald 20 dX7_letter_19 rfl (s) (by repeat (first | assumption | refine gs_eq ?_ | refine gs_ne (by omega) ?_ | exact is_of (by assumption) | refine gs_is ?_)) rfl (by omega) (by decide) ?_
    refine r_goto 25 dX7_letter_20 (by decide) ?_
    refine r_iret dX7_letter_25 rfl (by decide) (by decide) ?_
    first
    | exact ⟨by rw [letO_lt h9], rfl⟩
    | exact ⟨by rw [letO_ge ((nI_leI (by omega) (by omega)).mp q8)], rfl⟩

set_option maxRecDepth 100000 in
theorem tX7_wants0 {Γ : CT} {w : PW} {pm ty rm sp wr x : Int32} (ho : w[43]? = some (oM pm ty rm sp wr)) (hw : wr = -6) : Cl Γ yX7_wants XX7_wants 0 0 0 [.ref 43, .int x] w (rN (fun w1 => Fr w w1 (fun q => q = 43) ∧ w1[43]? = some (oM pm ty rm (sp + 1) (if x = 0 then sp else -6)))) := by
  refine Cl.of (ls := [some (.ref 43), some (.int x)]) rfl (by decide +kernel) (fun h => by cases h) (Nat.le_of_ble_eq_true rfl) rfl ?_
  refine r_aload_n 1 dX7_wants_0 rfl rfl rfl ?_
  refine r_getf 4 dX7_wants_1 rfl f_X7_203.r (by repeat (first | assumption | refine gs_eq ?_ | refine gs_ne (by omega) ?_ | exact is_of (by assumption) | refine gs_is ?_)) rfl ?_
  refine r_bipush (v := (-6)) 6 dX7_wants_4 rfl (by decide) ?_
  refine r_icmp_ne 36 9 dX7_wants_6 (by decide) rfl (fun q6 => absurd q6 (fun z => z hw)) (fun q6 => ?_)
  refine r_aload_n 10 dX7_wants_9 rfl rfl rfl ?_
  refine r_iload_n 11 dX7_wants_10 rfl rfl ?_
  refine r_if_eq 19 14 dX7_wants_11 (by decide) rfl (fun q11 => ?_) (fun q11 => ?_)
  · refine r_aload_n 20 dX7_wants_19 rfl rfl rfl ?_
    refine r_getf 23 dX7_wants_20 rfl f_X7_200.r (by repeat (first | assumption | refine gs_eq ?_ | refine gs_ne (by omega) ?_ | exact is_of (by assumption) | refine gs_is ?_)) rfl ?_
    refine r_putf (fs1 := [_, _, _, _, _, _, _, _, _, _, _, _, _, _, _, _, _, _, _, _]) 26 dX7_wants_23 rfl f_X7_203 (by repeat (first | assumption | refine gs_eq ?_ | refine gs_ne (by omega) ?_ | exact is_of (by assumption) | refine gs_is ?_)) rfl (by simp only [List.length_cons, List.length_nil]; omega) rfl ?_
    refine r_aload_n 27 dX7_wants_26 rfl rfl rfl ?_
    refine r_dup 28 dX7_wants_27 rfl rfl ?_
    refine r_getf 31 dX7_wants_28 rfl f_X7_200.r (by repeat (first | assumption | refine gs_eq ?_ | refine gs_ne (by omega) ?_ | exact is_of (by assumption) | refine gs_is ?_)) rfl ?_
    refine r_iconst (v := 1) 32 dX7_wants_31 rfl (by decide) ?_
    refine r_iadd 33 dX7_wants_32 rfl ?_
    refine r_putf (fs1 := [_, _, _, _, _, _, _, _, _, _, _, _, _, _, _, _, _, _, _, _]) 36 dX7_wants_33 rfl f_X7_200 (by repeat (first | assumption | refine gs_eq ?_ | refine gs_ne (by omega) ?_ | exact is_of (by assumption) | refine gs_is ?_)) rfl (by simp only [List.length_cons, List.length_nil]; omega) rfl ?_
    refine r_vret dX7_wants_36 rfl (by decide) (by decide) ?_
    first
    | exact ⟨rfl, Fr.sr (S := fun q => q = 43) (Fr.st rfl) rfl, by rw [if_pos q11]; exact (by repeat (first | assumption | refine gs_eq ?_ | refine gs_ne (by omega) ?_ | exact is_of (by assumption) | refine gs_is ?_))⟩
    | exact ⟨rfl, Fr.sr (S := fun q => q = 43) (Fr.st rfl) rfl, by rw [if_neg q11]; exact (by repeat (first | assumption | refine gs_eq ?_ | refine gs_ne (by omega) ?_ | exact is_of (by assumption) | refine gs_is ?_))⟩
  · refine r_bipush (v := (-6)) 16 dX7_wants_14 rfl (by decide) ?_
    refine r_goto 23 dX7_wants_16 (by decide) ?_
    refine r_putf (fs1 := [_, _, _, _, _, _, _, _, _, _, _, _, _, _, _, _, _, _, _, _]) 26 dX7_wants_23 rfl f_X7_203 (by repeat (first | assumption | refine gs_eq ?_ | refine gs_ne (by omega) ?_ | exact is_of (by assumption) | refine gs_is ?_)) rfl (by simp only [List.length_cons, List.length_nil]; omega) rfl ?_
    refine r_aload_n 27 dX7_wants_26 rfl rfl rfl ?_
    refine r_dup 28 dX7_wants_27 rfl rfl ?_
    refine r_getf 31 dX7_wants_28 rfl f_X7_200.r (by repeat (first | assumption | refine gs_eq ?_ | refine gs_ne (by omega) ?_ | exact is_of (by assumption) | refine gs_is ?_)) rfl ?_
    refine r_iconst (v := 1) 32 dX7_wants_31 rfl (by decide) ?_
    refine r_iadd 33 dX7_wants_32 rfl ?_
    refine r_putf (fs1 := [_, _, _, _, _, _, _, _, _, _, _, _, _, _, _, _, _, _, _, _]) 36 dX7_wants_33 rfl f_X7_200 (by repeat (first | assumption | refine gs_eq ?_ | refine gs_ne (by omega) ?_ | exact is_of (by assumption) | refine gs_is ?_)) rfl (by simp only [List.length_cons, List.length_nil]; omega) rfl ?_
    refine r_vret dX7_wants_36 rfl (by decide) (by decide) ?_
    first
    | exact ⟨rfl, Fr.sr (S := fun q => q = 43) (Fr.st rfl) rfl, by rw [if_pos q11]; exact (by repeat (first | assumption | refine gs_eq ?_ | refine gs_ne (by omega) ?_ | exact is_of (by assumption) | refine gs_is ?_))⟩
    | exact ⟨rfl, Fr.sr (S := fun q => q = 43) (Fr.st rfl) rfl, by rw [if_neg q11]; exact (by repeat (first | assumption | refine gs_eq ?_ | refine gs_ne (by omega) ?_ | exact is_of (by assumption) | refine gs_is ?_))⟩

set_option maxRecDepth 100000 in
theorem tX7_wants1 {Γ : CT} {w : PW} {pm ty rm sp wr x : Int32} (ho : w[43]? = some (oM pm ty rm sp wr)) (hw : ¬ wr = -6) : Cl Γ yX7_wants XX7_wants 0 0 0 [.ref 43, .int x] w (rN (fun w1 => w1 = w)) := by
  refine Cl.of (ls := [some (.ref 43), some (.int x)]) rfl (by decide +kernel) (fun h => by cases h) (Nat.le_of_ble_eq_true rfl) rfl ?_
  refine r_aload_n 1 dX7_wants_0 rfl rfl rfl ?_
  refine r_getf 4 dX7_wants_1 rfl f_X7_203.r (by repeat (first | assumption | refine gs_eq ?_ | refine gs_ne (by omega) ?_ | exact is_of (by assumption) | refine gs_is ?_)) rfl ?_
  refine r_bipush (v := (-6)) 6 dX7_wants_4 rfl (by decide) ?_
  refine r_icmp_ne 36 9 dX7_wants_6 (by decide) rfl (fun q6 => ?_) (fun q6 => absurd q6 hw)
  refine r_vret dX7_wants_36 rfl (by decide) (by decide) ?_
  exact ⟨rfl, rfl⟩

set_option maxRecDepth 100000 in
theorem tX7_number0 {Γ : CT} {w : PW} {pm rm wr : Int32} {pf : Nat → Int32} {pn s : Nat} (ho : w[43]? = some (oM pm (nI pn) rm (nI s) wr)) (hp : w[48]? = some (aC 60 pf)) (hpn : pn ≤ 60) (hs : s ≤ 100) (hw : wr = -6) : Cl Γ yX7_number XX7_number 1 0 0 [.ref 43] w (rP (nuV pf pn s) (fun w1 => Fr w w1 (fun q => q = 43) ∧ w1[43]? = some (oM pm (nI pn) rm (nI (nuS pf pn s)) (nuW pf pn s)))) := by
  refine Cl.of (ls := [some (.ref 43), none, none]) rfl (by decide +kernel) (fun h => by cases h) (Nat.le_of_ble_eq_true rfl) rfl ?_
  refine r_aload_n 1 dX7_number_0 rfl rfl rfl ?_
  refine r_callV0 4 dX7_number_1 rfl (tX7_letter ho hp hpn (by omega)) l_X7_206 mX7_letter rfl (by repeat (first | assumption | refine gs_eq ?_ | refine gs_ne (by omega) ?_ | exact is_of (by assumption) | refine gs_is ?_)) rfl (by decide) (Nat.le_of_ble_eq_true rfl) (by decide) (qI ?_)
  refine r_bipush (v := 48) 6 dX7_number_4 rfl (by decide) ?_
  refine r_isub 7 dX7_number_6 rfl ?_
  refine r_istore_n (ls1 := [_, _, _]) 8 dX7_number_7 rfl (by decide) rfl rfl ?_
  refine r_aload_n 9 dX7_number_8 rfl rfl rfl ?_
  refine r_iload_n 10 dX7_number_9 rfl rfl ?_
  refine r_iconst (v := 0) 11 dX7_number_10 rfl (by decide) ?_
  refine r_bipush (v := 9) 13 dX7_number_11 rfl (by decide) ?_
  refine r_callS0 16 dX7_number_13 rfl (tX7_in) l_X7_61 mX7_in rfl (by decide) (Nat.le_of_ble_eq_true rfl) (by decide) (qI ?_)
  refine r_callV0 19 dX7_number_16 rfl (tX7_wants0 ho hw) l_X7_209 mX7_wants rfl (by repeat (first | assumption | refine gs_eq ?_ | refine gs_ne (by omega) ?_ | exact is_of (by assumption) | refine gs_is ?_)) rfl (by decide) (Nat.le_of_ble_eq_true rfl) (by decide) (qN fun w1 h1 => ?_)
  obtain ⟨hF1, h1⟩ := h1
  have ew : (if bI (inI (letO pf pn s - 48) 0 9) = 0 then nI s else (-6 : Int32)) = (if nuD pf pn s = true then -6 else nI s) := by
    unfold nuD
    cases inI (letO pf pn s - 48) 0 9 <;> rfl
  rw [ew, nI_1] at h1
  have hp1 := hF1.at (h := 48) (by decide) hp
  have hwt : (if nuD pf pn s = true then (-6 : Int32) else nI s) = -6 → nuD pf pn s = true := fun z => by
    cases hd : nuD pf pn s with
    | true => rfl
    | false => rw [hd] at z; exact absurd z (nI_n6 (by omega))
  have hwf : ¬ (if nuD pf pn s = true then (-6 : Int32) else nI s) = -6 → nuD pf pn s = false := fun z => by
    cases hd : nuD pf pn s with
    | true => exact absurd (if_pos hd) z
    | false => rfl
  refine r_aload_n 20 dX7_number_19 rfl rfl rfl ?_
  refine r_callV0 23 dX7_number_20 rfl (tX7_letter h1 hp1 hpn (by omega)) l_X7_206 mX7_letter rfl (by repeat (first | assumption | refine gs_eq ?_ | refine gs_ne (by omega) ?_ | exact is_of (by assumption) | refine gs_is ?_)) rfl (by decide) (Nat.le_of_ble_eq_true rfl) (by decide) (qI ?_)
  refine r_bipush (v := 48) 25 dX7_number_23 rfl (by decide) ?_
  refine r_isub 26 dX7_number_25 rfl ?_
  refine r_istore_n (ls1 := [_, _, _]) 27 dX7_number_26 rfl (by decide) rfl rfl ?_
  refine r_aload_n 28 dX7_number_27 rfl rfl rfl ?_
  refine r_getf 31 dX7_number_28 rfl f_X7_203.r (by repeat (first | assumption | refine gs_eq ?_ | refine gs_ne (by omega) ?_ | exact is_of (by assumption) | refine gs_is ?_)) rfl ?_
  refine r_bipush (v := (-6)) 33 dX7_number_31 rfl (by decide) ?_
  refine r_icmp_ne 78 36 dX7_number_33 (by decide) rfl (fun q33 => ?_) (fun q33 => ?_)
  · refine r_iload_n 79 dX7_number_78 rfl rfl ?_
    refine r_iret dX7_number_79 rfl (by decide) (by decide) ?_
    first
    | (have h2 : nu2 pf pn s = false := by
         unfold nu2
         rw [show nuD pf pn s = false from hwf q33]; rfl
       exact ⟨by rw [nuV, if_neg (by rw [h2]; decide)], hF1, by rw [nuS, if_neg (by rw [h2]; decide), nuW]; exact h1⟩)
    | (have h2 : nu2 pf pn s = false := by
         unfold nu2
         rw [decide_eq_false (Int32.not_lt.mpr q37), Bool.false_and, Bool.and_false]
       exact ⟨by rw [nuV, if_neg (by rw [h2]; decide)], hF1, by rw [nuS, if_neg (by rw [h2]; decide), nuW]; exact h1⟩)
    | (have h2 : nu2 pf pn s = false := by
         unfold nu2
         rw [show nuD pf pn (s + 1) = false from bI_0.mp q47, Bool.false_and, Bool.and_false, Bool.and_false]
       exact ⟨by rw [nuV, if_neg (by rw [h2]; decide)], hF1, by rw [nuS, if_neg (by rw [h2]; decide), nuW]; exact h1⟩)
    | (have h2 : nu2 pf pn s = false := by
         unfold nu2
         rw [decide_eq_false (Int32.not_lt.mpr q58), Bool.and_false, Bool.and_false, Bool.and_false]
       exact ⟨by rw [nuV, if_neg (by rw [h2]; decide)], hF1, by rw [nuS, if_neg (by rw [h2]; decide), nuW]; exact h1⟩)
    | (have h2 : nu2 pf pn s = true := by
         unfold nu2
         rw [show nuD pf pn s = true from hwt q33, decide_eq_true (Int32.not_le.mp q37), show nuD pf pn (s + 1) = true from ne_f q47, decide_eq_true (Int32.not_le.mp q58)]
         rfl
       have hd : nuD pf pn s = true := hwt q33
       rw [if_pos hd] at h1
       exact ⟨by rw [nuV, if_pos h2], hF1.sr rfl, by rw [nuS, if_pos h2, nuW, if_pos hd]; exact (by repeat (first | assumption | refine gs_eq ?_ | refine gs_ne (by omega) ?_ | exact is_of (by assumption) | refine gs_is ?_))⟩)
  · refine r_iload_n 37 dX7_number_36 rfl rfl ?_
    refine r_if_le 78 40 dX7_number_37 (by decide) rfl (fun q37 => ?_) (fun q37 => ?_)
    · refine r_iload_n 79 dX7_number_78 rfl rfl ?_
      refine r_iret dX7_number_79 rfl (by decide) (by decide) ?_
      first
      | (have h2 : nu2 pf pn s = false := by
           unfold nu2
           rw [show nuD pf pn s = false from hwf q33]; rfl
         exact ⟨by rw [nuV, if_neg (by rw [h2]; decide)], hF1, by rw [nuS, if_neg (by rw [h2]; decide), nuW]; exact h1⟩)
      | (have h2 : nu2 pf pn s = false := by
           unfold nu2
           rw [decide_eq_false (Int32.not_lt.mpr q37), Bool.false_and, Bool.and_false]
         exact ⟨by rw [nuV, if_neg (by rw [h2]; decide)], hF1, by rw [nuS, if_neg (by rw [h2]; decide), nuW]; exact h1⟩)
      | (have h2 : nu2 pf pn s = false := by
           unfold nu2
           rw [show nuD pf pn (s + 1) = false from bI_0.mp q47, Bool.false_and, Bool.and_false, Bool.and_false]
         exact ⟨by rw [nuV, if_neg (by rw [h2]; decide)], hF1, by rw [nuS, if_neg (by rw [h2]; decide), nuW]; exact h1⟩)
      | (have h2 : nu2 pf pn s = false := by
           unfold nu2
           rw [decide_eq_false (Int32.not_lt.mpr q58), Bool.and_false, Bool.and_false, Bool.and_false]
         exact ⟨by rw [nuV, if_neg (by rw [h2]; decide)], hF1, by rw [nuS, if_neg (by rw [h2]; decide), nuW]; exact h1⟩)
      | (have h2 : nu2 pf pn s = true := by
           unfold nu2
           rw [show nuD pf pn s = true from hwt q33, decide_eq_true (Int32.not_le.mp q37), show nuD pf pn (s + 1) = true from ne_f q47, decide_eq_true (Int32.not_le.mp q58)]
           rfl
         have hd : nuD pf pn s = true := hwt q33
         rw [if_pos hd] at h1
         exact ⟨by rw [nuV, if_pos h2], hF1.sr rfl, by rw [nuS, if_pos h2, nuW, if_pos hd]; exact (by repeat (first | assumption | refine gs_eq ?_ | refine gs_ne (by omega) ?_ | exact is_of (by assumption) | refine gs_is ?_))⟩)
    · refine r_iload_n 41 dX7_number_40 rfl rfl ?_
      refine r_iconst (v := 0) 42 dX7_number_41 rfl (by decide) ?_
      refine r_bipush (v := 9) 44 dX7_number_42 rfl (by decide) ?_
      refine r_callS0 47 dX7_number_44 rfl (tX7_in) l_X7_61 mX7_in rfl (by decide) (Nat.le_of_ble_eq_true rfl) (by decide) (qI ?_)
      refine r_if_eq 78 50 dX7_number_47 (by decide) rfl (fun q47 => ?_) (fun q47 => ?_)
      · refine r_iload_n 79 dX7_number_78 rfl rfl ?_
        refine r_iret dX7_number_79 rfl (by decide) (by decide) ?_
        first
        | (have h2 : nu2 pf pn s = false := by
             unfold nu2
             rw [show nuD pf pn s = false from hwf q33]; rfl
           exact ⟨by rw [nuV, if_neg (by rw [h2]; decide)], hF1, by rw [nuS, if_neg (by rw [h2]; decide), nuW]; exact h1⟩)
        | (have h2 : nu2 pf pn s = false := by
             unfold nu2
             rw [decide_eq_false (Int32.not_lt.mpr q37), Bool.false_and, Bool.and_false]
           exact ⟨by rw [nuV, if_neg (by rw [h2]; decide)], hF1, by rw [nuS, if_neg (by rw [h2]; decide), nuW]; exact h1⟩)
        | (have h2 : nu2 pf pn s = false := by
             unfold nu2
             rw [show nuD pf pn (s + 1) = false from bI_0.mp q47, Bool.false_and, Bool.and_false, Bool.and_false]
           exact ⟨by rw [nuV, if_neg (by rw [h2]; decide)], hF1, by rw [nuS, if_neg (by rw [h2]; decide), nuW]; exact h1⟩)
        | (have h2 : nu2 pf pn s = false := by
             unfold nu2
             rw [decide_eq_false (Int32.not_lt.mpr q58), Bool.and_false, Bool.and_false, Bool.and_false]
           exact ⟨by rw [nuV, if_neg (by rw [h2]; decide)], hF1, by rw [nuS, if_neg (by rw [h2]; decide), nuW]; exact h1⟩)
        | (have h2 : nu2 pf pn s = true := by
             unfold nu2
             rw [show nuD pf pn s = true from hwt q33, decide_eq_true (Int32.not_le.mp q37), show nuD pf pn (s + 1) = true from ne_f q47, decide_eq_true (Int32.not_le.mp q58)]
             rfl
           have hd : nuD pf pn s = true := hwt q33
           rw [if_pos hd] at h1
           exact ⟨by rw [nuV, if_pos h2], hF1.sr rfl, by rw [nuS, if_pos h2, nuW, if_pos hd]; exact (by repeat (first | assumption | refine gs_eq ?_ | refine gs_ne (by omega) ?_ | exact is_of (by assumption) | refine gs_is ?_))⟩)
      · refine r_bipush (v := 10) 52 dX7_number_50 rfl (by decide) ?_
        refine r_iload_n 53 dX7_number_52 rfl rfl ?_
        refine r_imul 54 dX7_number_53 rfl ?_
        refine r_iload_n 55 dX7_number_54 rfl rfl ?_
        refine r_iadd 56 dX7_number_55 rfl ?_
        refine r_bipush (v := 48) 58 dX7_number_56 rfl (by decide) ?_
        refine r_icmp_ge 78 61 dX7_number_58 (by decide) rfl (fun q58 => ?_) (fun q58 => ?_)
        · refine r_iload_n 79 dX7_number_78 rfl rfl ?_
          refine r_iret dX7_number_79 rfl (by decide) (by decide) ?_
          first
          | (have h2 : nu2 pf pn s = false := by
               unfold nu2
               rw [show nuD pf pn s = false from hwf q33]; rfl
             exact ⟨by rw [nuV, if_neg (by rw [h2]; decide)], hF1, by rw [nuS, if_neg (by rw [h2]; decide), nuW]; exact h1⟩)
          | (have h2 : nu2 pf pn s = false := by
               unfold nu2
               rw [decide_eq_false (Int32.not_lt.mpr q37), Bool.false_and, Bool.and_false]
             exact ⟨by rw [nuV, if_neg (by rw [h2]; decide)], hF1, by rw [nuS, if_neg (by rw [h2]; decide), nuW]; exact h1⟩)
          | (have h2 : nu2 pf pn s = false := by
               unfold nu2
               rw [show nuD pf pn (s + 1) = false from bI_0.mp q47, Bool.false_and, Bool.and_false, Bool.and_false]
             exact ⟨by rw [nuV, if_neg (by rw [h2]; decide)], hF1, by rw [nuS, if_neg (by rw [h2]; decide), nuW]; exact h1⟩)
          | (have h2 : nu2 pf pn s = false := by
               unfold nu2
               rw [decide_eq_false (Int32.not_lt.mpr q58), Bool.and_false, Bool.and_false, Bool.and_false]
             exact ⟨by rw [nuV, if_neg (by rw [h2]; decide)], hF1, by rw [nuS, if_neg (by rw [h2]; decide), nuW]; exact h1⟩)
          | (have h2 : nu2 pf pn s = true := by
               unfold nu2
               rw [show nuD pf pn s = true from hwt q33, decide_eq_true (Int32.not_le.mp q37), show nuD pf pn (s + 1) = true from ne_f q47, decide_eq_true (Int32.not_le.mp q58)]
               rfl
             have hd : nuD pf pn s = true := hwt q33
             rw [if_pos hd] at h1
             exact ⟨by rw [nuV, if_pos h2], hF1.sr rfl, by rw [nuS, if_pos h2, nuW, if_pos hd]; exact (by repeat (first | assumption | refine gs_eq ?_ | refine gs_ne (by omega) ?_ | exact is_of (by assumption) | refine gs_is ?_))⟩)
        · refine r_bipush (v := 10) 63 dX7_number_61 rfl (by decide) ?_
          refine r_iload_n 64 dX7_number_63 rfl rfl ?_
          refine r_imul 65 dX7_number_64 rfl ?_
          refine r_iload_n 66 dX7_number_65 rfl rfl ?_
          refine r_iadd 67 dX7_number_66 rfl ?_
          refine r_istore_n (ls1 := [_, _, _]) 68 dX7_number_67 rfl (by decide) rfl rfl ?_
          refine r_aload_n 69 dX7_number_68 rfl rfl rfl ?_
          refine r_dup 70 dX7_number_69 rfl rfl ?_
          refine r_getf 73 dX7_number_70 rfl f_X7_200.r (by repeat (first | assumption | refine gs_eq ?_ | refine gs_ne (by omega) ?_ | exact is_of (by assumption) | refine gs_is ?_)) rfl ?_
          refine r_iconst (v := 1) 74 dX7_number_73 rfl (by decide) ?_
          refine r_iadd 75 dX7_number_74 rfl ?_
          rw [nI_1 (s + 1)]
          refine r_putf (fs1 := [_, _, _, _, _, _, _, _, _, _, _, _, _, _, _, _, _, _, _, _]) 78 dX7_number_75 rfl f_X7_200 (by repeat (first | assumption | refine gs_eq ?_ | refine gs_ne (by omega) ?_ | exact is_of (by assumption) | refine gs_is ?_)) rfl (by simp only [List.length_cons, List.length_nil]; omega) rfl ?_
          refine r_iload_n 79 dX7_number_78 rfl rfl ?_
          refine r_iret dX7_number_79 rfl (by decide) (by decide) ?_
          first
          | (have h2 : nu2 pf pn s = false := by
               unfold nu2
               rw [show nuD pf pn s = false from hwf q33]; rfl
             exact ⟨by rw [nuV, if_neg (by rw [h2]; decide)], hF1, by rw [nuS, if_neg (by rw [h2]; decide), nuW]; exact h1⟩)
          | (have h2 : nu2 pf pn s = false := by
               unfold nu2
               rw [decide_eq_false (Int32.not_lt.mpr q37), Bool.false_and, Bool.and_false]
             exact ⟨by rw [nuV, if_neg (by rw [h2]; decide)], hF1, by rw [nuS, if_neg (by rw [h2]; decide), nuW]; exact h1⟩)
          | (have h2 : nu2 pf pn s = false := by
               unfold nu2
               rw [show nuD pf pn (s + 1) = false from bI_0.mp q47, Bool.false_and, Bool.and_false, Bool.and_false]
             exact ⟨by rw [nuV, if_neg (by rw [h2]; decide)], hF1, by rw [nuS, if_neg (by rw [h2]; decide), nuW]; exact h1⟩)
          | (have h2 : nu2 pf pn s = false := by
               unfold nu2
               rw [decide_eq_false (Int32.not_lt.mpr q58), Bool.and_false, Bool.and_false, Bool.and_false]
             exact ⟨by rw [nuV, if_neg (by rw [h2]; decide)], hF1, by rw [nuS, if_neg (by rw [h2]; decide), nuW]; exact h1⟩)
          | (have h2 : nu2 pf pn s = true := by
               unfold nu2
               rw [show nuD pf pn s = true from hwt q33, decide_eq_true (Int32.not_le.mp q37), show nuD pf pn (s + 1) = true from ne_f q47, decide_eq_true (Int32.not_le.mp q58)]
               rfl
             have hd : nuD pf pn s = true := hwt q33
             rw [if_pos hd] at h1
             exact ⟨by rw [nuV, if_pos h2], hF1.sr rfl, by rw [nuS, if_pos h2, nuW, if_pos hd]; exact (by repeat (first | assumption | refine gs_eq ?_ | refine gs_ne (by omega) ?_ | exact is_of (by assumption) | refine gs_is ?_))⟩)

set_option maxRecDepth 100000 in
theorem tX7_number1 {Γ : CT} {w : PW} {pm rm wr : Int32} {pf : Nat → Int32} {pn s : Nat} (ho : w[43]? = some (oM pm (nI pn) rm (nI s) wr)) (hp : w[48]? = some (aC 60 pf)) (hpn : pn ≤ 60) (hs : s ≤ 100) (hw : ¬ wr = -6) : Cl Γ yX7_number XX7_number 1 0 0 [.ref 43] w (rP (letO pf pn s - 48) (fun w1 => w1 = w)) := by
  refine Cl.of (ls := [some (.ref 43), none, none]) rfl (by decide +kernel) (fun h => by cases h) (Nat.le_of_ble_eq_true rfl) rfl ?_
  refine r_aload_n 1 dX7_number_0 rfl rfl rfl ?_
  refine r_callV0 4 dX7_number_1 rfl (tX7_letter ho hp hpn (by omega)) l_X7_206 mX7_letter rfl (by repeat (first | assumption | refine gs_eq ?_ | refine gs_ne (by omega) ?_ | exact is_of (by assumption) | refine gs_is ?_)) rfl (by decide) (Nat.le_of_ble_eq_true rfl) (by decide) (qI ?_)
  refine r_bipush (v := 48) 6 dX7_number_4 rfl (by decide) ?_
  refine r_isub 7 dX7_number_6 rfl ?_
  refine r_istore_n (ls1 := [_, _, _]) 8 dX7_number_7 rfl (by decide) rfl rfl ?_
  refine r_aload_n 9 dX7_number_8 rfl rfl rfl ?_
  refine r_iload_n 10 dX7_number_9 rfl rfl ?_
  refine r_iconst (v := 0) 11 dX7_number_10 rfl (by decide) ?_
  refine r_bipush (v := 9) 13 dX7_number_11 rfl (by decide) ?_
  refine r_callS0 16 dX7_number_13 rfl (tX7_in) l_X7_61 mX7_in rfl (by decide) (Nat.le_of_ble_eq_true rfl) (by decide) (qI ?_)
  refine r_callV0 19 dX7_number_16 rfl (tX7_wants1 ho hw) l_X7_209 mX7_wants rfl (by repeat (first | assumption | refine gs_eq ?_ | refine gs_ne (by omega) ?_ | exact is_of (by assumption) | refine gs_is ?_)) rfl (by decide) (Nat.le_of_ble_eq_true rfl) (by decide) (qN fun w1 h1 => ?_)
  subst h1
  refine r_aload_n 20 dX7_number_19 rfl rfl rfl ?_
  refine r_callV0 23 dX7_number_20 rfl (tX7_letter ho hp hpn (by omega)) l_X7_206 mX7_letter rfl (by repeat (first | assumption | refine gs_eq ?_ | refine gs_ne (by omega) ?_ | exact is_of (by assumption) | refine gs_is ?_)) rfl (by decide) (Nat.le_of_ble_eq_true rfl) (by decide) (qI ?_)
  refine r_bipush (v := 48) 25 dX7_number_23 rfl (by decide) ?_
  refine r_isub 26 dX7_number_25 rfl ?_
  refine r_istore_n (ls1 := [_, _, _]) 27 dX7_number_26 rfl (by decide) rfl rfl ?_
  refine r_aload_n 28 dX7_number_27 rfl rfl rfl ?_
  refine r_getf 31 dX7_number_28 rfl f_X7_203.r (by repeat (first | assumption | refine gs_eq ?_ | refine gs_ne (by omega) ?_ | exact is_of (by assumption) | refine gs_is ?_)) rfl ?_
  refine r_bipush (v := (-6)) 33 dX7_number_31 rfl (by decide) ?_
  refine r_icmp_ne 78 36 dX7_number_33 (by decide) rfl (fun q33 => ?_) (fun q33 => absurd q33 hw)
  refine r_iload_n 79 dX7_number_78 rfl rfl ?_
  refine r_iret dX7_number_79 rfl (by decide) (by decide) ?_
  exact ⟨rfl, rfl⟩

def HopR (pf : Nat → Int32) (pn s s1 : Nat) (wr a b c : Int32) : Prop := (wr = -6 ∧ s + 3 ≤ s1 ∧ s1 ≤ pn ∧ ffO pf pn (pn - s) s 0 0 = ffO pf pn (pn - s1) s1 3 c ∧ endN pf pn s1 3 c ∧ ∃ bb, b = bI bb ∧ ∀ fr b0 G md, paO pf pn (pn + 1 - s) s fr 0 b0 G md = paO pf pn (pn + 1 - s1) s1 a c bb G md) ∨ (¬ wr = -6 ∧ s1 ≤ 100 ∧ wr = ffO pf pn (pn - s) s 0 0)
theorem nuS_le {pf : Nat → Int32} {pn s : Nat} : nuS pf pn s ≤ s + 2 := by
  unfold nuS
  split <;> omega
set_option maxRecDepth 100000 in
theorem tX7_readHop {Γ : CT} {w : PW} {pm : Int32} {pf rd : Nat → Int32} {pn s r : Nat} (ho : w[43]? = some (oM pm (nI pn) (nI r) (nI s) (-6))) (hp : w[48]? = some (aC 60 pf)) (hd0 : w[58]? = some (aI 60 rd)) (hpn : pn ≤ 60) (hs : s ≤ pn) (hr : r ≤ 15) : Cl Γ yX7_readHop XX7_readHop 2 0 0 [.ref 43] w (rN (fun w1 => Fr w w1 (fun q => q = 43 ∨ q = 58) ∧ ∃ s1 wr1 a b c, w1[43]? = some (oM pm (nI pn) (nI (r + 1)) (nI s1) wr1) ∧ w1[58]? = some (aI 60 (upd (upd (upd rd (3 * r) a) (3 * r + 1) b) (3 * r + 2) c)) ∧ HopR pf pn s s1 wr1 a b c)) := by
  refine Cl.of (ls := [some (.ref 43), none]) rfl (by decide +kernel) (fun h => by cases h) (Nat.le_of_ble_eq_true rfl) rfl ?_
  refine r_iconst (v := nI 3) 1 dX7_readHop_0 rfl (by decide) ?_
  refine r_aload_n 2 dX7_readHop_1 rfl rfl rfl ?_
  refine r_getf 5 dX7_readHop_2 rfl f_X7_212.r (by repeat (first | assumption | refine gs_eq ?_ | refine gs_ne (by omega) ?_ | exact is_of (by assumption) | refine gs_is ?_)) rfl ?_
  refine r_imul 6 dX7_readHop_5 rfl ?_
  rw [pk_mul]
  refine r_istore_n (ls1 := [_, _]) 7 dX7_readHop_6 rfl (by decide) rfl rfl ?_
  refine r_aload_n 8 dX7_readHop_7 rfl rfl rfl ?_
  refine r_getf 11 dX7_readHop_8 rfl f_X7_54.r (by repeat (first | assumption | refine gs_eq ?_ | refine gs_ne (by omega) ?_ | exact is_of (by assumption) | refine gs_is ?_)) rfl ?_
  refine r_iload_n 12 dX7_readHop_11 rfl rfl ?_
  refine r_aload_n 13 dX7_readHop_12 rfl rfl rfl ?_
  refine r_callV0 16 dX7_readHop_13 rfl (tX7_number0 ho hp hpn (by omega) rfl) l_X7_215 mX7_number rfl (by repeat (first | assumption | refine gs_eq ?_ | refine gs_ne (by omega) ?_ | exact is_of (by assumption) | refine gs_is ?_)) rfl (by decide) (Nat.le_of_ble_eq_true rfl) (by decide) (qP fun w1 h1 => ?_)
  obtain ⟨hF1, h1⟩ := h1
  have hFa : Fr w w1 (fun q => q = 43 ∨ q = 58) := hF1.mono (fun q a => Or.inl a)
  have hp1 := hF1.at (h := 48) (by decide) hp
  have hd1 := hF1.at (h := 58) (by decide) hd0
  have hs1 : nuS pf pn s ≤ s + 2 := nuS_le
  rcases hd : nuD pf pn s with _ | _
  · rw [nuW, hd] at h1
    have h1 : _ = some (oM pm (nI pn) (nI r) (nI (nuS pf pn s)) (nI s)) := h1
    refine r_iast 17 dX7_readHop_16 rfl (3 * r) (by repeat (first | assumption | refine gs_eq ?_ | refine gs_ne (by omega) ?_ | exact is_of (by assumption) | refine gs_is ?_)) rfl (by omega) (by decide) ?_
    refine r_aload_n 18 dX7_readHop_17 rfl rfl rfl ?_
    refine r_getf 21 dX7_readHop_18 rfl f_X7_54.r (by repeat (first | assumption | refine gs_eq ?_ | refine gs_ne (by omega) ?_ | exact is_of (by assumption) | refine gs_is ?_)) rfl ?_
    refine r_iload_n 22 dX7_readHop_21 rfl rfl ?_
    refine r_iconst (v := nI 1) 23 dX7_readHop_22 rfl (by decide) ?_
    refine r_iadd 24 dX7_readHop_23 rfl ?_
    rw [nI_add]
    refine r_aload_n 25 dX7_readHop_24 rfl rfl rfl ?_
    refine r_callV0 28 dX7_readHop_25 rfl (tX7_letter (by repeat (first | assumption | refine gs_eq ?_ | refine gs_ne (by omega) ?_ | exact is_of (by assumption) | refine gs_is ?_)) (by repeat (first | assumption | refine gs_eq ?_ | refine gs_ne (by omega) ?_ | exact is_of (by assumption) | refine gs_is ?_)) hpn (by omega)) l_X7_206 mX7_letter rfl (by repeat (first | assumption | refine gs_eq ?_ | refine gs_ne (by omega) ?_ | exact is_of (by assumption) | refine gs_is ?_)) rfl (by decide) (Nat.le_of_ble_eq_true rfl) (by decide) (qI ?_)
    refine r_bipush (v := 120) 30 dX7_readHop_28 rfl (by decide) ?_
    refine r_icmp_ne 37 33 dX7_readHop_30 (by decide) rfl (fun q30 => ?_) (fun q30 => ?_)
    · refine r_iconst (v := 0) 38 dX7_readHop_37 rfl (by decide) ?_
      refine r_iast 39 dX7_readHop_38 rfl (3 * r + 1) (by repeat (first | assumption | refine gs_eq ?_ | refine gs_ne (by omega) ?_ | exact is_of (by assumption) | refine gs_is ?_)) rfl (by omega) (by decide) ?_
      refine r_aload_n 40 dX7_readHop_39 rfl rfl rfl ?_
      refine r_aload_n 41 dX7_readHop_40 rfl rfl rfl ?_
      refine r_callV0 44 dX7_readHop_41 rfl (tX7_letter (by repeat (first | assumption | refine gs_eq ?_ | refine gs_ne (by omega) ?_ | exact is_of (by assumption) | refine gs_is ?_)) (by repeat (first | assumption | refine gs_eq ?_ | refine gs_ne (by omega) ?_ | exact is_of (by assumption) | refine gs_is ?_)) hpn (by omega)) l_X7_206 mX7_letter rfl (by repeat (first | assumption | refine gs_eq ?_ | refine gs_ne (by omega) ?_ | exact is_of (by assumption) | refine gs_is ?_)) rfl (by decide) (Nat.le_of_ble_eq_true rfl) (by decide) (qI ?_)
      refine r_bipush (v := 120) 46 dX7_readHop_44 rfl (by decide) ?_
      refine r_icmp_eq 58 49 dX7_readHop_46 (by decide) rfl (fun q46 => ?_) (fun q46 => ?_)
      · refine r_iconst (v := 1) 59 dX7_readHop_58 rfl (by decide) ?_
        refine r_goto 63 dX7_readHop_59 (by decide) ?_
        refine r_callV0 66 dX7_readHop_63 rfl (tX7_wants1 (by repeat (first | assumption | refine gs_eq ?_ | refine gs_ne (by omega) ?_ | exact is_of (by assumption) | refine gs_is ?_)) (nI_n6 (by omega))) l_X7_209 mX7_wants rfl (by repeat (first | assumption | refine gs_eq ?_ | refine gs_ne (by omega) ?_ | exact is_of (by assumption) | refine gs_is ?_)) rfl (by decide) (Nat.le_of_ble_eq_true rfl) (by decide) (qN fun w2 h2 => ?_)
        subst h2
        refine r_aload_n 67 dX7_readHop_66 rfl rfl rfl ?_
        refine r_getf 70 dX7_readHop_67 rfl f_X7_54.r (by repeat (first | assumption | refine gs_eq ?_ | refine gs_ne (by omega) ?_ | exact is_of (by assumption) | refine gs_is ?_)) rfl ?_
        refine r_iload_n 71 dX7_readHop_70 rfl rfl ?_
        refine r_iconst (v := nI 2) 72 dX7_readHop_71 rfl (by decide) ?_
        refine r_iadd 73 dX7_readHop_72 rfl ?_
        rw [nI_add]
        refine r_aload_n 74 dX7_readHop_73 rfl rfl rfl ?_
        refine r_callV0 77 dX7_readHop_74 rfl (tX7_number1 (by repeat (first | assumption | refine gs_eq ?_ | refine gs_ne (by omega) ?_ | exact is_of (by assumption) | refine gs_is ?_)) (by repeat (first | assumption | refine gs_eq ?_ | refine gs_ne (by omega) ?_ | exact is_of (by assumption) | refine gs_is ?_)) hpn (by omega) (nI_n6 (by omega))) l_X7_215 mX7_number rfl (by repeat (first | assumption | refine gs_eq ?_ | refine gs_ne (by omega) ?_ | exact is_of (by assumption) | refine gs_is ?_)) rfl (by decide) (Nat.le_of_ble_eq_true rfl) (by decide) (qP fun w3 h3 => ?_)
        subst h3
        refine r_iast 78 dX7_readHop_77 rfl (3 * r + 2) (by repeat (first | assumption | refine gs_eq ?_ | refine gs_ne (by omega) ?_ | exact is_of (by assumption) | refine gs_is ?_)) rfl (by omega) (by decide) ?_
        refine r_aload_n 79 dX7_readHop_78 rfl rfl rfl ?_
        refine r_dup 80 dX7_readHop_79 rfl rfl ?_
        refine r_getf 83 dX7_readHop_80 rfl f_X7_212.r (by repeat (first | assumption | refine gs_eq ?_ | refine gs_ne (by omega) ?_ | exact is_of (by assumption) | refine gs_is ?_)) rfl ?_
        refine r_iconst (v := nI 1) 84 dX7_readHop_83 rfl (by decide) ?_
        refine r_iadd 85 dX7_readHop_84 rfl ?_
        rw [nI_add]
        refine r_putf (fs1 := [_, _, _, _, _, _, _, _, _, _, _, _, _, _, _, _, _, _, _, _]) 88 dX7_readHop_85 rfl f_X7_212 (by repeat (first | assumption | refine gs_eq ?_ | refine gs_ne (by omega) ?_ | exact is_of (by assumption) | refine gs_is ?_)) rfl (by simp only [List.length_cons, List.length_nil]; omega) rfl ?_
        refine r_vret dX7_readHop_88 rfl (by decide) (by decide) ?_
        exact ⟨rfl, Fr.sr (Fr.sr (Fr.sr (Fr.sr hFa (Or.inr rfl)) (Or.inr rfl)) (Or.inr rfl)) (Or.inl rfl), _, _, _, _, _, (by repeat (first | assumption | refine gs_eq ?_ | refine gs_ne (by omega) ?_ | exact is_of (by assumption) | refine gs_is ?_)), (by repeat (first | assumption | refine gs_eq ?_ | refine gs_ne (by omega) ?_ | exact is_of (by assumption) | refine gs_is ?_)), Or.inr ⟨nI_n6 (by omega), by omega, (num_no hs (Or.inl rfl) hd).symm⟩⟩
      · refine r_aload_n 50 dX7_readHop_49 rfl rfl rfl ?_
        refine r_callV0 53 dX7_readHop_50 rfl (tX7_letter (by repeat (first | assumption | refine gs_eq ?_ | refine gs_ne (by omega) ?_ | exact is_of (by assumption) | refine gs_is ?_)) (by repeat (first | assumption | refine gs_eq ?_ | refine gs_ne (by omega) ?_ | exact is_of (by assumption) | refine gs_is ?_)) hpn (by omega)) l_X7_206 mX7_letter rfl (by repeat (first | assumption | refine gs_eq ?_ | refine gs_ne (by omega) ?_ | exact is_of (by assumption) | refine gs_is ?_)) rfl (by decide) (Nat.le_of_ble_eq_true rfl) (by decide) (qI ?_)
        refine r_bipush (v := 45) 55 dX7_readHop_53 rfl (by decide) ?_
        refine r_icmp_ne 62 58 dX7_readHop_55 (by decide) rfl (fun q55 => ?_) (fun q55 => ?_)
        · refine r_iconst (v := 0) 63 dX7_readHop_62 rfl (by decide) ?_
          refine r_callV0 66 dX7_readHop_63 rfl (tX7_wants1 (by repeat (first | assumption | refine gs_eq ?_ | refine gs_ne (by omega) ?_ | exact is_of (by assumption) | refine gs_is ?_)) (nI_n6 (by omega))) l_X7_209 mX7_wants rfl (by repeat (first | assumption | refine gs_eq ?_ | refine gs_ne (by omega) ?_ | exact is_of (by assumption) | refine gs_is ?_)) rfl (by decide) (Nat.le_of_ble_eq_true rfl) (by decide) (qN fun w2 h2 => ?_)
          subst h2
          refine r_aload_n 67 dX7_readHop_66 rfl rfl rfl ?_
          refine r_getf 70 dX7_readHop_67 rfl f_X7_54.r (by repeat (first | assumption | refine gs_eq ?_ | refine gs_ne (by omega) ?_ | exact is_of (by assumption) | refine gs_is ?_)) rfl ?_
          refine r_iload_n 71 dX7_readHop_70 rfl rfl ?_
          refine r_iconst (v := nI 2) 72 dX7_readHop_71 rfl (by decide) ?_
          refine r_iadd 73 dX7_readHop_72 rfl ?_
          rw [nI_add]
          refine r_aload_n 74 dX7_readHop_73 rfl rfl rfl ?_
          refine r_callV0 77 dX7_readHop_74 rfl (tX7_number1 (by repeat (first | assumption | refine gs_eq ?_ | refine gs_ne (by omega) ?_ | exact is_of (by assumption) | refine gs_is ?_)) (by repeat (first | assumption | refine gs_eq ?_ | refine gs_ne (by omega) ?_ | exact is_of (by assumption) | refine gs_is ?_)) hpn (by omega) (nI_n6 (by omega))) l_X7_215 mX7_number rfl (by repeat (first | assumption | refine gs_eq ?_ | refine gs_ne (by omega) ?_ | exact is_of (by assumption) | refine gs_is ?_)) rfl (by decide) (Nat.le_of_ble_eq_true rfl) (by decide) (qP fun w3 h3 => ?_)
          subst h3
          refine r_iast 78 dX7_readHop_77 rfl (3 * r + 2) (by repeat (first | assumption | refine gs_eq ?_ | refine gs_ne (by omega) ?_ | exact is_of (by assumption) | refine gs_is ?_)) rfl (by omega) (by decide) ?_
          refine r_aload_n 79 dX7_readHop_78 rfl rfl rfl ?_
          refine r_dup 80 dX7_readHop_79 rfl rfl ?_
          refine r_getf 83 dX7_readHop_80 rfl f_X7_212.r (by repeat (first | assumption | refine gs_eq ?_ | refine gs_ne (by omega) ?_ | exact is_of (by assumption) | refine gs_is ?_)) rfl ?_
          refine r_iconst (v := nI 1) 84 dX7_readHop_83 rfl (by decide) ?_
          refine r_iadd 85 dX7_readHop_84 rfl ?_
          rw [nI_add]
          refine r_putf (fs1 := [_, _, _, _, _, _, _, _, _, _, _, _, _, _, _, _, _, _, _, _]) 88 dX7_readHop_85 rfl f_X7_212 (by repeat (first | assumption | refine gs_eq ?_ | refine gs_ne (by omega) ?_ | exact is_of (by assumption) | refine gs_is ?_)) rfl (by simp only [List.length_cons, List.length_nil]; omega) rfl ?_
          refine r_vret dX7_readHop_88 rfl (by decide) (by decide) ?_
          exact ⟨rfl, Fr.sr (Fr.sr (Fr.sr (Fr.sr hFa (Or.inr rfl)) (Or.inr rfl)) (Or.inr rfl)) (Or.inl rfl), _, _, _, _, _, (by repeat (first | assumption | refine gs_eq ?_ | refine gs_ne (by omega) ?_ | exact is_of (by assumption) | refine gs_is ?_)), (by repeat (first | assumption | refine gs_eq ?_ | refine gs_ne (by omega) ?_ | exact is_of (by assumption) | refine gs_is ?_)), Or.inr ⟨nI_n6 (by omega), by omega, (num_no hs (Or.inl rfl) hd).symm⟩⟩
        · refine r_iconst (v := 1) 59 dX7_readHop_58 rfl (by decide) ?_
          refine r_goto 63 dX7_readHop_59 (by decide) ?_
          refine r_callV0 66 dX7_readHop_63 rfl (tX7_wants1 (by repeat (first | assumption | refine gs_eq ?_ | refine gs_ne (by omega) ?_ | exact is_of (by assumption) | refine gs_is ?_)) (nI_n6 (by omega))) l_X7_209 mX7_wants rfl (by repeat (first | assumption | refine gs_eq ?_ | refine gs_ne (by omega) ?_ | exact is_of (by assumption) | refine gs_is ?_)) rfl (by decide) (Nat.le_of_ble_eq_true rfl) (by decide) (qN fun w2 h2 => ?_)
          subst h2
          refine r_aload_n 67 dX7_readHop_66 rfl rfl rfl ?_
          refine r_getf 70 dX7_readHop_67 rfl f_X7_54.r (by repeat (first | assumption | refine gs_eq ?_ | refine gs_ne (by omega) ?_ | exact is_of (by assumption) | refine gs_is ?_)) rfl ?_
          refine r_iload_n 71 dX7_readHop_70 rfl rfl ?_
          refine r_iconst (v := nI 2) 72 dX7_readHop_71 rfl (by decide) ?_
          refine r_iadd 73 dX7_readHop_72 rfl ?_
          rw [nI_add]
          refine r_aload_n 74 dX7_readHop_73 rfl rfl rfl ?_
          refine r_callV0 77 dX7_readHop_74 rfl (tX7_number1 (by repeat (first | assumption | refine gs_eq ?_ | refine gs_ne (by omega) ?_ | exact is_of (by assumption) | refine gs_is ?_)) (by repeat (first | assumption | refine gs_eq ?_ | refine gs_ne (by omega) ?_ | exact is_of (by assumption) | refine gs_is ?_)) hpn (by omega) (nI_n6 (by omega))) l_X7_215 mX7_number rfl (by repeat (first | assumption | refine gs_eq ?_ | refine gs_ne (by omega) ?_ | exact is_of (by assumption) | refine gs_is ?_)) rfl (by decide) (Nat.le_of_ble_eq_true rfl) (by decide) (qP fun w3 h3 => ?_)
          subst h3
          refine r_iast 78 dX7_readHop_77 rfl (3 * r + 2) (by repeat (first | assumption | refine gs_eq ?_ | refine gs_ne (by omega) ?_ | exact is_of (by assumption) | refine gs_is ?_)) rfl (by omega) (by decide) ?_
          refine r_aload_n 79 dX7_readHop_78 rfl rfl rfl ?_
          refine r_dup 80 dX7_readHop_79 rfl rfl ?_
          refine r_getf 83 dX7_readHop_80 rfl f_X7_212.r (by repeat (first | assumption | refine gs_eq ?_ | refine gs_ne (by omega) ?_ | exact is_of (by assumption) | refine gs_is ?_)) rfl ?_
          refine r_iconst (v := nI 1) 84 dX7_readHop_83 rfl (by decide) ?_
          refine r_iadd 85 dX7_readHop_84 rfl ?_
          rw [nI_add]
          refine r_putf (fs1 := [_, _, _, _, _, _, _, _, _, _, _, _, _, _, _, _, _, _, _, _]) 88 dX7_readHop_85 rfl f_X7_212 (by repeat (first | assumption | refine gs_eq ?_ | refine gs_ne (by omega) ?_ | exact is_of (by assumption) | refine gs_is ?_)) rfl (by simp only [List.length_cons, List.length_nil]; omega) rfl ?_
          refine r_vret dX7_readHop_88 rfl (by decide) (by decide) ?_
          exact ⟨rfl, Fr.sr (Fr.sr (Fr.sr (Fr.sr hFa (Or.inr rfl)) (Or.inr rfl)) (Or.inr rfl)) (Or.inl rfl), _, _, _, _, _, (by repeat (first | assumption | refine gs_eq ?_ | refine gs_ne (by omega) ?_ | exact is_of (by assumption) | refine gs_is ?_)), (by repeat (first | assumption | refine gs_eq ?_ | refine gs_ne (by omega) ?_ | exact is_of (by assumption) | refine gs_is ?_)), Or.inr ⟨nI_n6 (by omega), by omega, (num_no hs (Or.inl rfl) hd).symm⟩⟩
    · refine r_iconst (v := 1) 34 dX7_readHop_33 rfl (by decide) ?_
      refine r_goto 38 dX7_readHop_34 (by decide) ?_
      refine r_iast 39 dX7_readHop_38 rfl (3 * r + 1) (by repeat (first | assumption | refine gs_eq ?_ | refine gs_ne (by omega) ?_ | exact is_of (by assumption) | refine gs_is ?_)) rfl (by omega) (by decide) ?_
      refine r_aload_n 40 dX7_readHop_39 rfl rfl rfl ?_
      refine r_aload_n 41 dX7_readHop_40 rfl rfl rfl ?_
      refine r_callV0 44 dX7_readHop_41 rfl (tX7_letter (by repeat (first | assumption | refine gs_eq ?_ | refine gs_ne (by omega) ?_ | exact is_of (by assumption) | refine gs_is ?_)) (by repeat (first | assumption | refine gs_eq ?_ | refine gs_ne (by omega) ?_ | exact is_of (by assumption) | refine gs_is ?_)) hpn (by omega)) l_X7_206 mX7_letter rfl (by repeat (first | assumption | refine gs_eq ?_ | refine gs_ne (by omega) ?_ | exact is_of (by assumption) | refine gs_is ?_)) rfl (by decide) (Nat.le_of_ble_eq_true rfl) (by decide) (qI ?_)
      refine r_bipush (v := 120) 46 dX7_readHop_44 rfl (by decide) ?_
      refine r_icmp_eq 58 49 dX7_readHop_46 (by decide) rfl (fun q46 => ?_) (fun q46 => ?_)
      · refine r_iconst (v := 1) 59 dX7_readHop_58 rfl (by decide) ?_
        refine r_goto 63 dX7_readHop_59 (by decide) ?_
        refine r_callV0 66 dX7_readHop_63 rfl (tX7_wants1 (by repeat (first | assumption | refine gs_eq ?_ | refine gs_ne (by omega) ?_ | exact is_of (by assumption) | refine gs_is ?_)) (nI_n6 (by omega))) l_X7_209 mX7_wants rfl (by repeat (first | assumption | refine gs_eq ?_ | refine gs_ne (by omega) ?_ | exact is_of (by assumption) | refine gs_is ?_)) rfl (by decide) (Nat.le_of_ble_eq_true rfl) (by decide) (qN fun w2 h2 => ?_)
        subst h2
        refine r_aload_n 67 dX7_readHop_66 rfl rfl rfl ?_
        refine r_getf 70 dX7_readHop_67 rfl f_X7_54.r (by repeat (first | assumption | refine gs_eq ?_ | refine gs_ne (by omega) ?_ | exact is_of (by assumption) | refine gs_is ?_)) rfl ?_
        refine r_iload_n 71 dX7_readHop_70 rfl rfl ?_
        refine r_iconst (v := nI 2) 72 dX7_readHop_71 rfl (by decide) ?_
        refine r_iadd 73 dX7_readHop_72 rfl ?_
        rw [nI_add]
        refine r_aload_n 74 dX7_readHop_73 rfl rfl rfl ?_
        refine r_callV0 77 dX7_readHop_74 rfl (tX7_number1 (by repeat (first | assumption | refine gs_eq ?_ | refine gs_ne (by omega) ?_ | exact is_of (by assumption) | refine gs_is ?_)) (by repeat (first | assumption | refine gs_eq ?_ | refine gs_ne (by omega) ?_ | exact is_of (by assumption) | refine gs_is ?_)) hpn (by omega) (nI_n6 (by omega))) l_X7_215 mX7_number rfl (by repeat (first | assumption | refine gs_eq ?_ | refine gs_ne (by omega) ?_ | exact is_of (by assumption) | refine gs_is ?_)) rfl (by decide) (Nat.le_of_ble_eq_true rfl) (by decide) (qP fun w3 h3 => ?_)
        subst h3
        refine r_iast 78 dX7_readHop_77 rfl (3 * r + 2) (by repeat (first | assumption | refine gs_eq ?_ | refine gs_ne (by omega) ?_ | exact is_of (by assumption) | refine gs_is ?_)) rfl (by omega) (by decide) ?_
        refine r_aload_n 79 dX7_readHop_78 rfl rfl rfl ?_
        refine r_dup 80 dX7_readHop_79 rfl rfl ?_
        refine r_getf 83 dX7_readHop_80 rfl f_X7_212.r (by repeat (first | assumption | refine gs_eq ?_ | refine gs_ne (by omega) ?_ | exact is_of (by assumption) | refine gs_is ?_)) rfl ?_
        refine r_iconst (v := nI 1) 84 dX7_readHop_83 rfl (by decide) ?_
        refine r_iadd 85 dX7_readHop_84 rfl ?_
        rw [nI_add]
        refine r_putf (fs1 := [_, _, _, _, _, _, _, _, _, _, _, _, _, _, _, _, _, _, _, _]) 88 dX7_readHop_85 rfl f_X7_212 (by repeat (first | assumption | refine gs_eq ?_ | refine gs_ne (by omega) ?_ | exact is_of (by assumption) | refine gs_is ?_)) rfl (by simp only [List.length_cons, List.length_nil]; omega) rfl ?_
        refine r_vret dX7_readHop_88 rfl (by decide) (by decide) ?_
        exact ⟨rfl, Fr.sr (Fr.sr (Fr.sr (Fr.sr hFa (Or.inr rfl)) (Or.inr rfl)) (Or.inr rfl)) (Or.inl rfl), _, _, _, _, _, (by repeat (first | assumption | refine gs_eq ?_ | refine gs_ne (by omega) ?_ | exact is_of (by assumption) | refine gs_is ?_)), (by repeat (first | assumption | refine gs_eq ?_ | refine gs_ne (by omega) ?_ | exact is_of (by assumption) | refine gs_is ?_)), Or.inr ⟨nI_n6 (by omega), by omega, (num_no hs (Or.inl rfl) hd).symm⟩⟩
      · refine r_aload_n 50 dX7_readHop_49 rfl rfl rfl ?_
        refine r_callV0 53 dX7_readHop_50 rfl (tX7_letter (by repeat (first | assumption | refine gs_eq ?_ | refine gs_ne (by omega) ?_ | exact is_of (by assumption) | refine gs_is ?_)) (by repeat (first | assumption | refine gs_eq ?_ | refine gs_ne (by omega) ?_ | exact is_of (by assumption) | refine gs_is ?_)) hpn (by omega)) l_X7_206 mX7_letter rfl (by repeat (first | assumption | refine gs_eq ?_ | refine gs_ne (by omega) ?_ | exact is_of (by assumption) | refine gs_is ?_)) rfl (by decide) (Nat.le_of_ble_eq_true rfl) (by decide) (qI ?_)
        refine r_bipush (v := 45) 55 dX7_readHop_53 rfl (by decide) ?_
        refine r_icmp_ne 62 58 dX7_readHop_55 (by decide) rfl (fun q55 => ?_) (fun q55 => ?_)
        · refine r_iconst (v := 0) 63 dX7_readHop_62 rfl (by decide) ?_
          refine r_callV0 66 dX7_readHop_63 rfl (tX7_wants1 (by repeat (first | assumption | refine gs_eq ?_ | refine gs_ne (by omega) ?_ | exact is_of (by assumption) | refine gs_is ?_)) (nI_n6 (by omega))) l_X7_209 mX7_wants rfl (by repeat (first | assumption | refine gs_eq ?_ | refine gs_ne (by omega) ?_ | exact is_of (by assumption) | refine gs_is ?_)) rfl (by decide) (Nat.le_of_ble_eq_true rfl) (by decide) (qN fun w2 h2 => ?_)
          subst h2
          refine r_aload_n 67 dX7_readHop_66 rfl rfl rfl ?_
          refine r_getf 70 dX7_readHop_67 rfl f_X7_54.r (by repeat (first | assumption | refine gs_eq ?_ | refine gs_ne (by omega) ?_ | exact is_of (by assumption) | refine gs_is ?_)) rfl ?_
          refine r_iload_n 71 dX7_readHop_70 rfl rfl ?_
          refine r_iconst (v := nI 2) 72 dX7_readHop_71 rfl (by decide) ?_
          refine r_iadd 73 dX7_readHop_72 rfl ?_
          rw [nI_add]
          refine r_aload_n 74 dX7_readHop_73 rfl rfl rfl ?_
          refine r_callV0 77 dX7_readHop_74 rfl (tX7_number1 (by repeat (first | assumption | refine gs_eq ?_ | refine gs_ne (by omega) ?_ | exact is_of (by assumption) | refine gs_is ?_)) (by repeat (first | assumption | refine gs_eq ?_ | refine gs_ne (by omega) ?_ | exact is_of (by assumption) | refine gs_is ?_)) hpn (by omega) (nI_n6 (by omega))) l_X7_215 mX7_number rfl (by repeat (first | assumption | refine gs_eq ?_ | refine gs_ne (by omega) ?_ | exact is_of (by assumption) | refine gs_is ?_)) rfl (by decide) (Nat.le_of_ble_eq_true rfl) (by decide) (qP fun w3 h3 => ?_)
          subst h3
          refine r_iast 78 dX7_readHop_77 rfl (3 * r + 2) (by repeat (first | assumption | refine gs_eq ?_ | refine gs_ne (by omega) ?_ | exact is_of (by assumption) | refine gs_is ?_)) rfl (by omega) (by decide) ?_
          refine r_aload_n 79 dX7_readHop_78 rfl rfl rfl ?_
          refine r_dup 80 dX7_readHop_79 rfl rfl ?_
          refine r_getf 83 dX7_readHop_80 rfl f_X7_212.r (by repeat (first | assumption | refine gs_eq ?_ | refine gs_ne (by omega) ?_ | exact is_of (by assumption) | refine gs_is ?_)) rfl ?_
          refine r_iconst (v := nI 1) 84 dX7_readHop_83 rfl (by decide) ?_
          refine r_iadd 85 dX7_readHop_84 rfl ?_
          rw [nI_add]
          refine r_putf (fs1 := [_, _, _, _, _, _, _, _, _, _, _, _, _, _, _, _, _, _, _, _]) 88 dX7_readHop_85 rfl f_X7_212 (by repeat (first | assumption | refine gs_eq ?_ | refine gs_ne (by omega) ?_ | exact is_of (by assumption) | refine gs_is ?_)) rfl (by simp only [List.length_cons, List.length_nil]; omega) rfl ?_
          refine r_vret dX7_readHop_88 rfl (by decide) (by decide) ?_
          exact ⟨rfl, Fr.sr (Fr.sr (Fr.sr (Fr.sr hFa (Or.inr rfl)) (Or.inr rfl)) (Or.inr rfl)) (Or.inl rfl), _, _, _, _, _, (by repeat (first | assumption | refine gs_eq ?_ | refine gs_ne (by omega) ?_ | exact is_of (by assumption) | refine gs_is ?_)), (by repeat (first | assumption | refine gs_eq ?_ | refine gs_ne (by omega) ?_ | exact is_of (by assumption) | refine gs_is ?_)), Or.inr ⟨nI_n6 (by omega), by omega, (num_no hs (Or.inl rfl) hd).symm⟩⟩
        · refine r_iconst (v := 1) 59 dX7_readHop_58 rfl (by decide) ?_
          refine r_goto 63 dX7_readHop_59 (by decide) ?_
          refine r_callV0 66 dX7_readHop_63 rfl (tX7_wants1 (by repeat (first | assumption | refine gs_eq ?_ | refine gs_ne (by omega) ?_ | exact is_of (by assumption) | refine gs_is ?_)) (nI_n6 (by omega))) l_X7_209 mX7_wants rfl (by repeat (first | assumption | refine gs_eq ?_ | refine gs_ne (by omega) ?_ | exact is_of (by assumption) | refine gs_is ?_)) rfl (by decide) (Nat.le_of_ble_eq_true rfl) (by decide) (qN fun w2 h2 => ?_)
          subst h2
          refine r_aload_n 67 dX7_readHop_66 rfl rfl rfl ?_
          refine r_getf 70 dX7_readHop_67 rfl f_X7_54.r (by repeat (first | assumption | refine gs_eq ?_ | refine gs_ne (by omega) ?_ | exact is_of (by assumption) | refine gs_is ?_)) rfl ?_
          refine r_iload_n 71 dX7_readHop_70 rfl rfl ?_
          refine r_iconst (v := nI 2) 72 dX7_readHop_71 rfl (by decide) ?_
          refine r_iadd 73 dX7_readHop_72 rfl ?_
          rw [nI_add]
          refine r_aload_n 74 dX7_readHop_73 rfl rfl rfl ?_
          refine r_callV0 77 dX7_readHop_74 rfl (tX7_number1 (by repeat (first | assumption | refine gs_eq ?_ | refine gs_ne (by omega) ?_ | exact is_of (by assumption) | refine gs_is ?_)) (by repeat (first | assumption | refine gs_eq ?_ | refine gs_ne (by omega) ?_ | exact is_of (by assumption) | refine gs_is ?_)) hpn (by omega) (nI_n6 (by omega))) l_X7_215 mX7_number rfl (by repeat (first | assumption | refine gs_eq ?_ | refine gs_ne (by omega) ?_ | exact is_of (by assumption) | refine gs_is ?_)) rfl (by decide) (Nat.le_of_ble_eq_true rfl) (by decide) (qP fun w3 h3 => ?_)
          subst h3
          refine r_iast 78 dX7_readHop_77 rfl (3 * r + 2) (by repeat (first | assumption | refine gs_eq ?_ | refine gs_ne (by omega) ?_ | exact is_of (by assumption) | refine gs_is ?_)) rfl (by omega) (by decide) ?_
          refine r_aload_n 79 dX7_readHop_78 rfl rfl rfl ?_
          refine r_dup 80 dX7_readHop_79 rfl rfl ?_
          refine r_getf 83 dX7_readHop_80 rfl f_X7_212.r (by repeat (first | assumption | refine gs_eq ?_ | refine gs_ne (by omega) ?_ | exact is_of (by assumption) | refine gs_is ?_)) rfl ?_
          refine r_iconst (v := nI 1) 84 dX7_readHop_83 rfl (by decide) ?_
          refine r_iadd 85 dX7_readHop_84 rfl ?_
          rw [nI_add]
          refine r_putf (fs1 := [_, _, _, _, _, _, _, _, _, _, _, _, _, _, _, _, _, _, _, _]) 88 dX7_readHop_85 rfl f_X7_212 (by repeat (first | assumption | refine gs_eq ?_ | refine gs_ne (by omega) ?_ | exact is_of (by assumption) | refine gs_is ?_)) rfl (by simp only [List.length_cons, List.length_nil]; omega) rfl ?_
          refine r_vret dX7_readHop_88 rfl (by decide) (by decide) ?_
          exact ⟨rfl, Fr.sr (Fr.sr (Fr.sr (Fr.sr hFa (Or.inr rfl)) (Or.inr rfl)) (Or.inr rfl)) (Or.inl rfl), _, _, _, _, _, (by repeat (first | assumption | refine gs_eq ?_ | refine gs_ne (by omega) ?_ | exact is_of (by assumption) | refine gs_is ?_)), (by repeat (first | assumption | refine gs_eq ?_ | refine gs_ne (by omega) ?_ | exact is_of (by assumption) | refine gs_is ?_)), Or.inr ⟨nI_n6 (by omega), by omega, (num_no hs (Or.inl rfl) hd).symm⟩⟩
  · rw [nuW, if_pos hd] at h1
    obtain ⟨ha, hle, hff, hen, hpa⟩ := num_yes (num := 0) (Or.inl rfl) hd
    by_cases hx : letO pf pn (nuS pf pn s) = 120
    · refine r_iast 17 dX7_readHop_16 rfl (3 * r) (by repeat (first | assumption | refine gs_eq ?_ | refine gs_ne (by omega) ?_ | exact is_of (by assumption) | refine gs_is ?_)) rfl (by omega) (by decide) ?_
      refine r_aload_n 18 dX7_readHop_17 rfl rfl rfl ?_
      refine r_getf 21 dX7_readHop_18 rfl f_X7_54.r (by repeat (first | assumption | refine gs_eq ?_ | refine gs_ne (by omega) ?_ | exact is_of (by assumption) | refine gs_is ?_)) rfl ?_
      refine r_iload_n 22 dX7_readHop_21 rfl rfl ?_
      refine r_iconst (v := nI 1) 23 dX7_readHop_22 rfl (by decide) ?_
      refine r_iadd 24 dX7_readHop_23 rfl ?_
      rw [nI_add]
      refine r_aload_n 25 dX7_readHop_24 rfl rfl rfl ?_
      refine r_callV0 28 dX7_readHop_25 rfl (tX7_letter (by repeat (first | assumption | refine gs_eq ?_ | refine gs_ne (by omega) ?_ | exact is_of (by assumption) | refine gs_is ?_)) (by repeat (first | assumption | refine gs_eq ?_ | refine gs_ne (by omega) ?_ | exact is_of (by assumption) | refine gs_is ?_)) hpn (by omega)) l_X7_206 mX7_letter rfl (by repeat (first | assumption | refine gs_eq ?_ | refine gs_ne (by omega) ?_ | exact is_of (by assumption) | refine gs_is ?_)) rfl (by decide) (Nat.le_of_ble_eq_true rfl) (by decide) (qI ?_)
      refine r_bipush (v := 120) 30 dX7_readHop_28 rfl (by decide) ?_
      refine r_icmp_ne 37 33 dX7_readHop_30 (by decide) rfl (fun q30 => absurd q30 (fun z => z hx)) (fun q30 => ?_)
      refine r_iconst (v := 1) 34 dX7_readHop_33 rfl (by decide) ?_
      refine r_goto 38 dX7_readHop_34 (by decide) ?_
      refine r_iast 39 dX7_readHop_38 rfl (3 * r + 1) (by repeat (first | assumption | refine gs_eq ?_ | refine gs_ne (by omega) ?_ | exact is_of (by assumption) | refine gs_is ?_)) rfl (by omega) (by decide) ?_
      refine r_aload_n 40 dX7_readHop_39 rfl rfl rfl ?_
      refine r_aload_n 41 dX7_readHop_40 rfl rfl rfl ?_
      refine r_callV0 44 dX7_readHop_41 rfl (tX7_letter (by repeat (first | assumption | refine gs_eq ?_ | refine gs_ne (by omega) ?_ | exact is_of (by assumption) | refine gs_is ?_)) (by repeat (first | assumption | refine gs_eq ?_ | refine gs_ne (by omega) ?_ | exact is_of (by assumption) | refine gs_is ?_)) hpn (by omega)) l_X7_206 mX7_letter rfl (by repeat (first | assumption | refine gs_eq ?_ | refine gs_ne (by omega) ?_ | exact is_of (by assumption) | refine gs_is ?_)) rfl (by decide) (Nat.le_of_ble_eq_true rfl) (by decide) (qI ?_)
      refine r_bipush (v := 120) 46 dX7_readHop_44 rfl (by decide) ?_
      refine r_icmp_eq 58 49 dX7_readHop_46 (by decide) rfl (fun q46 => ?_) (fun q46 => absurd q46 (fun z => z hx))
      refine r_iconst (v := 1) 59 dX7_readHop_58 rfl (by decide) ?_
      refine r_goto 63 dX7_readHop_59 (by decide) ?_
      refine r_callV0 66 dX7_readHop_63 rfl (tX7_wants0 (by repeat (first | assumption | refine gs_eq ?_ | refine gs_ne (by omega) ?_ | exact is_of (by assumption) | refine gs_is ?_)) rfl) l_X7_209 mX7_wants rfl (by repeat (first | assumption | refine gs_eq ?_ | refine gs_ne (by omega) ?_ | exact is_of (by assumption) | refine gs_is ?_)) rfl (by decide) (Nat.le_of_ble_eq_true rfl) (by decide) (qN fun w2 h2 => ?_)
      obtain ⟨hF2, h2⟩ := h2
      rw [nI_1, if_neg (by decide)] at h2
      have hp2 := hF2.at (h := 48) (by decide) (show _ = some (aC 60 pf) from (by repeat (first | assumption | refine gs_eq ?_ | refine gs_ne (by omega) ?_ | exact is_of (by assumption) | refine gs_is ?_)))
      have hd2 := hF2.at (h := 58) (by decide) (show _ = some (aI 60 (upd (upd rd (3 * r) (nuV pf pn s)) (3 * r + 1) 1)) from (by repeat (first | assumption | refine gs_eq ?_ | refine gs_ne (by omega) ?_ | exact is_of (by assumption) | refine gs_is ?_)))
      refine r_aload_n 67 dX7_readHop_66 rfl rfl rfl ?_
      refine r_getf 70 dX7_readHop_67 rfl f_X7_54.r (by repeat (first | assumption | refine gs_eq ?_ | refine gs_ne (by omega) ?_ | exact is_of (by assumption) | refine gs_is ?_)) rfl ?_
      refine r_iload_n 71 dX7_readHop_70 rfl rfl ?_
      refine r_iconst (v := nI 2) 72 dX7_readHop_71 rfl (by decide) ?_
      refine r_iadd 73 dX7_readHop_72 rfl ?_
      rw [nI_add]
      refine r_aload_n 74 dX7_readHop_73 rfl rfl rfl ?_
      refine r_callV0 77 dX7_readHop_74 rfl (tX7_number0 h2 hp2 hpn (by omega) rfl) l_X7_215 mX7_number rfl (by repeat (first | assumption | refine gs_eq ?_ | refine gs_ne (by omega) ?_ | exact is_of (by assumption) | refine gs_is ?_)) rfl (by decide) (Nat.le_of_ble_eq_true rfl) (by decide) (qP fun w3 h3 => ?_)
      obtain ⟨hF3, h3⟩ := h3
      have hd3 := hF3.at (h := 58) (by decide) hd2
      have hs3 : nuS pf pn (nuS pf pn s + 1) ≤ nuS pf pn s + 1 + 2 := nuS_le
      have hFF : Fr w w3 (fun q => q = 43 ∨ q = 58) := Fr.tr (Fr.tr (Fr.sr (Fr.sr hFa (Or.inr rfl)) (Or.inr rfl)) (hF2.mono (fun q a => Or.inl a))) (hF3.mono (fun q a => Or.inl a))
      refine r_iast 78 dX7_readHop_77 rfl (3 * r + 2) (by repeat (first | assumption | refine gs_eq ?_ | refine gs_ne (by omega) ?_ | exact is_of (by assumption) | refine gs_is ?_)) rfl (by omega) (by decide) ?_
      refine r_aload_n 79 dX7_readHop_78 rfl rfl rfl ?_
      refine r_dup 80 dX7_readHop_79 rfl rfl ?_
      refine r_getf 83 dX7_readHop_80 rfl f_X7_212.r (by repeat (first | assumption | refine gs_eq ?_ | refine gs_ne (by omega) ?_ | exact is_of (by assumption) | refine gs_is ?_)) rfl ?_
      refine r_iconst (v := nI 1) 84 dX7_readHop_83 rfl (by decide) ?_
      refine r_iadd 85 dX7_readHop_84 rfl ?_
      rw [nI_add]
      refine r_putf (fs1 := [_, _, _, _, _, _, _, _, _, _, _, _, _, _, _, _, _, _, _, _]) 88 dX7_readHop_85 rfl f_X7_212 (by repeat (first | assumption | refine gs_eq ?_ | refine gs_ne (by omega) ?_ | exact is_of (by assumption) | refine gs_is ?_)) rfl (by simp only [List.length_cons, List.length_nil]; omega) rfl ?_
      refine r_vret dX7_readHop_88 rfl (by decide) (by decide) ?_
      obtain ⟨hlt, hff2, hpa2⟩ := sep_yes (v := nuV pf pn s) (Or.inl hx)
      rcases hd9 : nuD pf pn (nuS pf pn s + 1) with _ | _
      · exact ⟨rfl, (hFF.sr (Or.inr rfl)).sr (Or.inl rfl), _, _, _, _, _, (by repeat (first | assumption | refine gs_eq ?_ | refine gs_ne (by omega) ?_ | exact is_of (by assumption) | refine gs_is ?_)), (by repeat (first | assumption | refine gs_eq ?_ | refine gs_ne (by omega) ?_ | exact is_of (by assumption) | refine gs_is ?_)), Or.inr ⟨by rw [nuW, hd9]; exact nI_n6 (by omega), by omega, by rw [nuW, hd9, hff, hff2, num_no (by omega) (Or.inr rfl) hd9]; rfl⟩⟩
      · obtain ⟨ha9, hle9, hff9, hen9, hpa9⟩ := num_yes (num := 0) (Or.inr rfl) hd9
        exact ⟨rfl, (hFF.sr (Or.inr rfl)).sr (Or.inl rfl), _, _, _, _, _, (by repeat (first | assumption | refine gs_eq ?_ | refine gs_ne (by omega) ?_ | exact is_of (by assumption) | refine gs_is ?_)), (by repeat (first | assumption | refine gs_eq ?_ | refine gs_ne (by omega) ?_ | exact is_of (by assumption) | refine gs_is ?_)), Or.inl ⟨by rw [nuW, if_pos hd9], by omega, hle9, hff.trans (hff2.trans hff9), hen9, true, rfl, fun fr b0 G md => by rw [hpa, hpa2, decide_eq_true hx]; exact hpa9 _ _ _ _⟩⟩
    · by_cases hm : letO pf pn (nuS pf pn s) = 45
      · refine r_iast 17 dX7_readHop_16 rfl (3 * r) (by repeat (first | assumption | refine gs_eq ?_ | refine gs_ne (by omega) ?_ | exact is_of (by assumption) | refine gs_is ?_)) rfl (by omega) (by decide) ?_
        refine r_aload_n 18 dX7_readHop_17 rfl rfl rfl ?_
        refine r_getf 21 dX7_readHop_18 rfl f_X7_54.r (by repeat (first | assumption | refine gs_eq ?_ | refine gs_ne (by omega) ?_ | exact is_of (by assumption) | refine gs_is ?_)) rfl ?_
        refine r_iload_n 22 dX7_readHop_21 rfl rfl ?_
        refine r_iconst (v := nI 1) 23 dX7_readHop_22 rfl (by decide) ?_
        refine r_iadd 24 dX7_readHop_23 rfl ?_
        rw [nI_add]
        refine r_aload_n 25 dX7_readHop_24 rfl rfl rfl ?_
        refine r_callV0 28 dX7_readHop_25 rfl (tX7_letter (by repeat (first | assumption | refine gs_eq ?_ | refine gs_ne (by omega) ?_ | exact is_of (by assumption) | refine gs_is ?_)) (by repeat (first | assumption | refine gs_eq ?_ | refine gs_ne (by omega) ?_ | exact is_of (by assumption) | refine gs_is ?_)) hpn (by omega)) l_X7_206 mX7_letter rfl (by repeat (first | assumption | refine gs_eq ?_ | refine gs_ne (by omega) ?_ | exact is_of (by assumption) | refine gs_is ?_)) rfl (by decide) (Nat.le_of_ble_eq_true rfl) (by decide) (qI ?_)
        refine r_bipush (v := 120) 30 dX7_readHop_28 rfl (by decide) ?_
        refine r_icmp_ne 37 33 dX7_readHop_30 (by decide) rfl (fun q30 => ?_) (fun q30 => absurd q30 hx)
        refine r_iconst (v := 0) 38 dX7_readHop_37 rfl (by decide) ?_
        refine r_iast 39 dX7_readHop_38 rfl (3 * r + 1) (by repeat (first | assumption | refine gs_eq ?_ | refine gs_ne (by omega) ?_ | exact is_of (by assumption) | refine gs_is ?_)) rfl (by omega) (by decide) ?_
        refine r_aload_n 40 dX7_readHop_39 rfl rfl rfl ?_
        refine r_aload_n 41 dX7_readHop_40 rfl rfl rfl ?_
        refine r_callV0 44 dX7_readHop_41 rfl (tX7_letter (by repeat (first | assumption | refine gs_eq ?_ | refine gs_ne (by omega) ?_ | exact is_of (by assumption) | refine gs_is ?_)) (by repeat (first | assumption | refine gs_eq ?_ | refine gs_ne (by omega) ?_ | exact is_of (by assumption) | refine gs_is ?_)) hpn (by omega)) l_X7_206 mX7_letter rfl (by repeat (first | assumption | refine gs_eq ?_ | refine gs_ne (by omega) ?_ | exact is_of (by assumption) | refine gs_is ?_)) rfl (by decide) (Nat.le_of_ble_eq_true rfl) (by decide) (qI ?_)
        refine r_bipush (v := 120) 46 dX7_readHop_44 rfl (by decide) ?_
        refine r_icmp_eq 58 49 dX7_readHop_46 (by decide) rfl (fun q46 => absurd q46 hx) (fun q46 => ?_)
        refine r_aload_n 50 dX7_readHop_49 rfl rfl rfl ?_
        refine r_callV0 53 dX7_readHop_50 rfl (tX7_letter (by repeat (first | assumption | refine gs_eq ?_ | refine gs_ne (by omega) ?_ | exact is_of (by assumption) | refine gs_is ?_)) (by repeat (first | assumption | refine gs_eq ?_ | refine gs_ne (by omega) ?_ | exact is_of (by assumption) | refine gs_is ?_)) hpn (by omega)) l_X7_206 mX7_letter rfl (by repeat (first | assumption | refine gs_eq ?_ | refine gs_ne (by omega) ?_ | exact is_of (by assumption) | refine gs_is ?_)) rfl (by decide) (Nat.le_of_ble_eq_true rfl) (by decide) (qI ?_)
        refine r_bipush (v := 45) 55 dX7_readHop_53 rfl (by decide) ?_
        refine r_icmp_ne 62 58 dX7_readHop_55 (by decide) rfl (fun q55 => absurd q55 (fun z => z hm)) (fun q55 => ?_)
        refine r_iconst (v := 1) 59 dX7_readHop_58 rfl (by decide) ?_
        refine r_goto 63 dX7_readHop_59 (by decide) ?_
        refine r_callV0 66 dX7_readHop_63 rfl (tX7_wants0 (by repeat (first | assumption | refine gs_eq ?_ | refine gs_ne (by omega) ?_ | exact is_of (by assumption) | refine gs_is ?_)) rfl) l_X7_209 mX7_wants rfl (by repeat (first | assumption | refine gs_eq ?_ | refine gs_ne (by omega) ?_ | exact is_of (by assumption) | refine gs_is ?_)) rfl (by decide) (Nat.le_of_ble_eq_true rfl) (by decide) (qN fun w2 h2 => ?_)
        obtain ⟨hF2, h2⟩ := h2
        rw [nI_1, if_neg (by decide)] at h2
        have hp2 := hF2.at (h := 48) (by decide) (show _ = some (aC 60 pf) from (by repeat (first | assumption | refine gs_eq ?_ | refine gs_ne (by omega) ?_ | exact is_of (by assumption) | refine gs_is ?_)))
        have hd2 := hF2.at (h := 58) (by decide) (show _ = some (aI 60 (upd (upd rd (3 * r) (nuV pf pn s)) (3 * r + 1) 0)) from (by repeat (first | assumption | refine gs_eq ?_ | refine gs_ne (by omega) ?_ | exact is_of (by assumption) | refine gs_is ?_)))
        refine r_aload_n 67 dX7_readHop_66 rfl rfl rfl ?_
        refine r_getf 70 dX7_readHop_67 rfl f_X7_54.r (by repeat (first | assumption | refine gs_eq ?_ | refine gs_ne (by omega) ?_ | exact is_of (by assumption) | refine gs_is ?_)) rfl ?_
        refine r_iload_n 71 dX7_readHop_70 rfl rfl ?_
        refine r_iconst (v := nI 2) 72 dX7_readHop_71 rfl (by decide) ?_
        refine r_iadd 73 dX7_readHop_72 rfl ?_
        rw [nI_add]
        refine r_aload_n 74 dX7_readHop_73 rfl rfl rfl ?_
        refine r_callV0 77 dX7_readHop_74 rfl (tX7_number0 h2 hp2 hpn (by omega) rfl) l_X7_215 mX7_number rfl (by repeat (first | assumption | refine gs_eq ?_ | refine gs_ne (by omega) ?_ | exact is_of (by assumption) | refine gs_is ?_)) rfl (by decide) (Nat.le_of_ble_eq_true rfl) (by decide) (qP fun w3 h3 => ?_)
        obtain ⟨hF3, h3⟩ := h3
        have hd3 := hF3.at (h := 58) (by decide) hd2
        have hs3 : nuS pf pn (nuS pf pn s + 1) ≤ nuS pf pn s + 1 + 2 := nuS_le
        have hFF : Fr w w3 (fun q => q = 43 ∨ q = 58) := Fr.tr (Fr.tr (Fr.sr (Fr.sr hFa (Or.inr rfl)) (Or.inr rfl)) (hF2.mono (fun q a => Or.inl a))) (hF3.mono (fun q a => Or.inl a))
        refine r_iast 78 dX7_readHop_77 rfl (3 * r + 2) (by repeat (first | assumption | refine gs_eq ?_ | refine gs_ne (by omega) ?_ | exact is_of (by assumption) | refine gs_is ?_)) rfl (by omega) (by decide) ?_
        refine r_aload_n 79 dX7_readHop_78 rfl rfl rfl ?_
        refine r_dup 80 dX7_readHop_79 rfl rfl ?_
        refine r_getf 83 dX7_readHop_80 rfl f_X7_212.r (by repeat (first | assumption | refine gs_eq ?_ | refine gs_ne (by omega) ?_ | exact is_of (by assumption) | refine gs_is ?_)) rfl ?_
        refine r_iconst (v := nI 1) 84 dX7_readHop_83 rfl (by decide) ?_
        refine r_iadd 85 dX7_readHop_84 rfl ?_
        rw [nI_add]
        refine r_putf (fs1 := [_, _, _, _, _, _, _, _, _, _, _, _, _, _, _, _, _, _, _, _]) 88 dX7_readHop_85 rfl f_X7_212 (by repeat (first | assumption | refine gs_eq ?_ | refine gs_ne (by omega) ?_ | exact is_of (by assumption) | refine gs_is ?_)) rfl (by simp only [List.length_cons, List.length_nil]; omega) rfl ?_
        refine r_vret dX7_readHop_88 rfl (by decide) (by decide) ?_
        obtain ⟨hlt, hff2, hpa2⟩ := sep_yes (v := nuV pf pn s) (Or.inr hm)
        rcases hd9 : nuD pf pn (nuS pf pn s + 1) with _ | _
        · exact ⟨rfl, (hFF.sr (Or.inr rfl)).sr (Or.inl rfl), _, _, _, _, _, (by repeat (first | assumption | refine gs_eq ?_ | refine gs_ne (by omega) ?_ | exact is_of (by assumption) | refine gs_is ?_)), (by repeat (first | assumption | refine gs_eq ?_ | refine gs_ne (by omega) ?_ | exact is_of (by assumption) | refine gs_is ?_)), Or.inr ⟨by rw [nuW, hd9]; exact nI_n6 (by omega), by omega, by rw [nuW, hd9, hff, hff2, num_no (by omega) (Or.inr rfl) hd9]; rfl⟩⟩
        · obtain ⟨ha9, hle9, hff9, hen9, hpa9⟩ := num_yes (num := 0) (Or.inr rfl) hd9
          exact ⟨rfl, (hFF.sr (Or.inr rfl)).sr (Or.inl rfl), _, _, _, _, _, (by repeat (first | assumption | refine gs_eq ?_ | refine gs_ne (by omega) ?_ | exact is_of (by assumption) | refine gs_is ?_)), (by repeat (first | assumption | refine gs_eq ?_ | refine gs_ne (by omega) ?_ | exact is_of (by assumption) | refine gs_is ?_)), Or.inl ⟨by rw [nuW, if_pos hd9], by omega, hle9, hff.trans (hff2.trans hff9), hen9, false, rfl, fun fr b0 G md => by rw [hpa, hpa2, decide_eq_false hx]; exact hpa9 _ _ _ _⟩⟩
      · refine r_iast 17 dX7_readHop_16 rfl (3 * r) (by repeat (first | assumption | refine gs_eq ?_ | refine gs_ne (by omega) ?_ | exact is_of (by assumption) | refine gs_is ?_)) rfl (by omega) (by decide) ?_
        refine r_aload_n 18 dX7_readHop_17 rfl rfl rfl ?_
        refine r_getf 21 dX7_readHop_18 rfl f_X7_54.r (by repeat (first | assumption | refine gs_eq ?_ | refine gs_ne (by omega) ?_ | exact is_of (by assumption) | refine gs_is ?_)) rfl ?_
        refine r_iload_n 22 dX7_readHop_21 rfl rfl ?_
        refine r_iconst (v := nI 1) 23 dX7_readHop_22 rfl (by decide) ?_
        refine r_iadd 24 dX7_readHop_23 rfl ?_
        rw [nI_add]
        refine r_aload_n 25 dX7_readHop_24 rfl rfl rfl ?_
        refine r_callV0 28 dX7_readHop_25 rfl (tX7_letter (by repeat (first | assumption | refine gs_eq ?_ | refine gs_ne (by omega) ?_ | exact is_of (by assumption) | refine gs_is ?_)) (by repeat (first | assumption | refine gs_eq ?_ | refine gs_ne (by omega) ?_ | exact is_of (by assumption) | refine gs_is ?_)) hpn (by omega)) l_X7_206 mX7_letter rfl (by repeat (first | assumption | refine gs_eq ?_ | refine gs_ne (by omega) ?_ | exact is_of (by assumption) | refine gs_is ?_)) rfl (by decide) (Nat.le_of_ble_eq_true rfl) (by decide) (qI ?_)
        refine r_bipush (v := 120) 30 dX7_readHop_28 rfl (by decide) ?_
        refine r_icmp_ne 37 33 dX7_readHop_30 (by decide) rfl (fun q30 => ?_) (fun q30 => absurd q30 hx)
        refine r_iconst (v := 0) 38 dX7_readHop_37 rfl (by decide) ?_
        refine r_iast 39 dX7_readHop_38 rfl (3 * r + 1) (by repeat (first | assumption | refine gs_eq ?_ | refine gs_ne (by omega) ?_ | exact is_of (by assumption) | refine gs_is ?_)) rfl (by omega) (by decide) ?_
        refine r_aload_n 40 dX7_readHop_39 rfl rfl rfl ?_
        refine r_aload_n 41 dX7_readHop_40 rfl rfl rfl ?_
        refine r_callV0 44 dX7_readHop_41 rfl (tX7_letter (by repeat (first | assumption | refine gs_eq ?_ | refine gs_ne (by omega) ?_ | exact is_of (by assumption) | refine gs_is ?_)) (by repeat (first | assumption | refine gs_eq ?_ | refine gs_ne (by omega) ?_ | exact is_of (by assumption) | refine gs_is ?_)) hpn (by omega)) l_X7_206 mX7_letter rfl (by repeat (first | assumption | refine gs_eq ?_ | refine gs_ne (by omega) ?_ | exact is_of (by assumption) | refine gs_is ?_)) rfl (by decide) (Nat.le_of_ble_eq_true rfl) (by decide) (qI ?_)
        refine r_bipush (v := 120) 46 dX7_readHop_44 rfl (by decide) ?_
        refine r_icmp_eq 58 49 dX7_readHop_46 (by decide) rfl (fun q46 => absurd q46 hx) (fun q46 => ?_)
        refine r_aload_n 50 dX7_readHop_49 rfl rfl rfl ?_
        refine r_callV0 53 dX7_readHop_50 rfl (tX7_letter (by repeat (first | assumption | refine gs_eq ?_ | refine gs_ne (by omega) ?_ | exact is_of (by assumption) | refine gs_is ?_)) (by repeat (first | assumption | refine gs_eq ?_ | refine gs_ne (by omega) ?_ | exact is_of (by assumption) | refine gs_is ?_)) hpn (by omega)) l_X7_206 mX7_letter rfl (by repeat (first | assumption | refine gs_eq ?_ | refine gs_ne (by omega) ?_ | exact is_of (by assumption) | refine gs_is ?_)) rfl (by decide) (Nat.le_of_ble_eq_true rfl) (by decide) (qI ?_)
        refine r_bipush (v := 45) 55 dX7_readHop_53 rfl (by decide) ?_
        refine r_icmp_ne 62 58 dX7_readHop_55 (by decide) rfl (fun q55 => ?_) (fun q55 => absurd q55 hm)
        refine r_iconst (v := 0) 63 dX7_readHop_62 rfl (by decide) ?_
        refine r_callV0 66 dX7_readHop_63 rfl (tX7_wants0 (by repeat (first | assumption | refine gs_eq ?_ | refine gs_ne (by omega) ?_ | exact is_of (by assumption) | refine gs_is ?_)) rfl) l_X7_209 mX7_wants rfl (by repeat (first | assumption | refine gs_eq ?_ | refine gs_ne (by omega) ?_ | exact is_of (by assumption) | refine gs_is ?_)) rfl (by decide) (Nat.le_of_ble_eq_true rfl) (by decide) (qN fun w2 h2 => ?_)
        obtain ⟨hF2, h2⟩ := h2
        rw [nI_1, if_pos (by decide)] at h2
        have hp2 := hF2.at (h := 48) (by decide) (show _ = some (aC 60 pf) from (by repeat (first | assumption | refine gs_eq ?_ | refine gs_ne (by omega) ?_ | exact is_of (by assumption) | refine gs_is ?_)))
        have hd2 := hF2.at (h := 58) (by decide) (show _ = some (aI 60 (upd (upd rd (3 * r) (nuV pf pn s)) (3 * r + 1) 0)) from (by repeat (first | assumption | refine gs_eq ?_ | refine gs_ne (by omega) ?_ | exact is_of (by assumption) | refine gs_is ?_)))
        refine r_aload_n 67 dX7_readHop_66 rfl rfl rfl ?_
        refine r_getf 70 dX7_readHop_67 rfl f_X7_54.r (by repeat (first | assumption | refine gs_eq ?_ | refine gs_ne (by omega) ?_ | exact is_of (by assumption) | refine gs_is ?_)) rfl ?_
        refine r_iload_n 71 dX7_readHop_70 rfl rfl ?_
        refine r_iconst (v := nI 2) 72 dX7_readHop_71 rfl (by decide) ?_
        refine r_iadd 73 dX7_readHop_72 rfl ?_
        rw [nI_add]
        refine r_aload_n 74 dX7_readHop_73 rfl rfl rfl ?_
        refine r_callV0 77 dX7_readHop_74 rfl (tX7_number1 h2 hp2 hpn (by omega) (nI_n6 (by omega))) l_X7_215 mX7_number rfl (by repeat (first | assumption | refine gs_eq ?_ | refine gs_ne (by omega) ?_ | exact is_of (by assumption) | refine gs_is ?_)) rfl (by decide) (Nat.le_of_ble_eq_true rfl) (by decide) (qP fun w3 h3 => ?_)
        subst h3
        refine r_iast 78 dX7_readHop_77 rfl (3 * r + 2) (by repeat (first | assumption | refine gs_eq ?_ | refine gs_ne (by omega) ?_ | exact is_of (by assumption) | refine gs_is ?_)) rfl (by omega) (by decide) ?_
        refine r_aload_n 79 dX7_readHop_78 rfl rfl rfl ?_
        refine r_dup 80 dX7_readHop_79 rfl rfl ?_
        refine r_getf 83 dX7_readHop_80 rfl f_X7_212.r (by repeat (first | assumption | refine gs_eq ?_ | refine gs_ne (by omega) ?_ | exact is_of (by assumption) | refine gs_is ?_)) rfl ?_
        refine r_iconst (v := nI 1) 84 dX7_readHop_83 rfl (by decide) ?_
        refine r_iadd 85 dX7_readHop_84 rfl ?_
        rw [nI_add]
        refine r_putf (fs1 := [_, _, _, _, _, _, _, _, _, _, _, _, _, _, _, _, _, _, _, _]) 88 dX7_readHop_85 rfl f_X7_212 (by repeat (first | assumption | refine gs_eq ?_ | refine gs_ne (by omega) ?_ | exact is_of (by assumption) | refine gs_is ?_)) rfl (by simp only [List.length_cons, List.length_nil]; omega) rfl ?_
        refine r_vret dX7_readHop_88 rfl (by decide) (by decide) ?_
        exact ⟨rfl, Fr.sr (Fr.sr (Fr.tr (Fr.sr (Fr.sr hFa (Or.inr rfl)) (Or.inr rfl)) (hF2.mono (fun q a => Or.inl a))) (Or.inr rfl)) (Or.inl rfl), _, _, _, _, _, (by repeat (first | assumption | refine gs_eq ?_ | refine gs_ne (by omega) ?_ | exact is_of (by assumption) | refine gs_is ?_)), (by repeat (first | assumption | refine gs_eq ?_ | refine gs_ne (by omega) ?_ | exact is_of (by assumption) | refine gs_is ?_)), Or.inr ⟨nI_n6 (by omega), by omega, (hff.trans (sep_no hle hen (fun z => z.elim hx hm))).symm⟩⟩

set_option maxRecDepth 100000 in
theorem tX7_readPad {Γ : CT} {w : PW} {pm rm sp wr : Int32} {pf rd : Nat → Int32} {pn : Nat} (ho : w[43]? = some (oM pm (nI pn) rm sp wr)) (hp : w[48]? = some (aC 60 pf)) (hd0 : w[58]? = some (aI 60 rd)) (hpn : pn ≤ 60) : Cl Γ yX7_readPad XX7_readPad 3 0 0 [.ref 43] w (rP (ffO pf pn pn 0 0 0) (fun w1 => Fr w w1 (fun q => q = 43 ∨ q = 58) ∧ ∃ (r : Nat) (sp wr : Int32) (re : Nat → Int32), w1[43]? = some (oM pm (nI pn) (nI r) sp wr) ∧ w1[58]? = some (aI 60 re) ∧ (ffO pf pn pn 0 0 0 = -6 → r ≤ 15 ∧ (∀ i, i < r → re (3 * i + 1) = 0 ∨ re (3 * i + 1) = 1) ∧ ∀ G md, paO pf pn (pn + 1) 0 0 0 false G md = plK re r 0 (fun G md => (md, G)) G md))) := by
  refine Cl.of (ls := [some (.ref 43), none]) rfl (by decide +kernel) (fun h => by cases h) (Nat.le_of_ble_eq_true rfl) rfl ?_
  have out : ∀ (u : PW) (r : Nat) (sp wr : Int32) (re : Nat → Int32), Fr w u (fun q => q = 43 ∨ q = 58) → u[43]? = some (oM pm (nI pn) (nI r) sp wr) → u[58]? = some (aI 60 re) → wr = ffO pf pn pn 0 0 0 → (wr = -6 → r ≤ 15 ∧ (∀ i, i < r → re (3 * i + 1) = 0 ∨ re (3 * i + 1) = 1) ∧ ∀ G md, paO pf pn (pn + 1) 0 0 0 false G md = plK re r 0 (fun G md => (md, G)) G md) → Rn Γ XX7_readPad (rmO 3 0 0) none (FinM (rP (ffO pf pn pn 0 0 0) (fun w1 => Fr w w1 (fun q => q = 43 ∨ q = 58) ∧ ∃ (r : Nat) (sp wr : Int32) (re : Nat → Int32), w1[43]? = some (oM pm (nI pn) (nI r) sp wr) ∧ w1[58]? = some (aI 60 re) ∧ (ffO pf pn pn 0 0 0 = -6 → r ≤ 15 ∧ (∀ i, i < r → re (3 * i + 1) = 0 ∨ re (3 * i + 1) = 1) ∧ ∀ G md, paO pf pn (pn + 1) 0 0 0 false G md = plK re r 0 (fun G md => (md, G)) G md))) 0 0) 0 0 u 18 [some (.ref 43), some (.int 0)] [] := by
    intro u r sp wr re hF h3 h8 hw hK
    refine r_iload_n 19 dX7_readPad_18 rfl rfl ?_
    refine r_if_eq 92 22 dX7_readPad_19 (by decide) rfl (fun q19 => ?_) (fun q19 => absurd q19 (by decide))
    refine r_aload_n 93 dX7_readPad_92 rfl rfl rfl ?_
    refine r_getf 96 dX7_readPad_93 rfl f_X7_203.r (by repeat (first | assumption | refine gs_eq ?_ | refine gs_ne (by omega) ?_ | exact is_of (by assumption) | refine gs_is ?_)) rfl ?_
    refine r_iret dX7_readPad_96 rfl (by decide) (by decide) ?_
    exact ⟨by rw [hw], hF, r, sp, wr, re, h3, h8, fun z => hK (hw.trans z)⟩
  have loop : ∀ (m s r : Nat) (u : PW) (rd : Nat → Int32) (fr : Int32) (b0 : Bool), pn - s < m → s ≤ pn → 4 * r ≤ s → Fr w u (fun q => q = 43 ∨ q = 58) → u[43]? = some (oM pm (nI pn) (nI r) (nI s) (-6)) → u[58]? = some (aI 60 rd) → ffO pf pn (pn - s) s 0 0 = ffO pf pn pn 0 0 0 → (∀ G md, paO pf pn (pn + 1) 0 0 0 false G md = plK rd r 0 (fun G md => paO pf pn (pn + 1 - s) s fr 0 b0 G md) G md) → (∀ i, i < r → rd (3 * i + 1) = 0 ∨ rd (3 * i + 1) = 1) → Rn Γ XX7_readPad (rmO 3 0 0) none (FinM (rP (ffO pf pn pn 0 0 0) (fun w1 => Fr w w1 (fun q => q = 43 ∨ q = 58) ∧ ∃ (r : Nat) (sp wr : Int32) (re : Nat → Int32), w1[43]? = some (oM pm (nI pn) (nI r) sp wr) ∧ w1[58]? = some (aI 60 re) ∧ (ffO pf pn pn 0 0 0 = -6 → r ≤ 15 ∧ (∀ i, i < r → re (3 * i + 1) = 0 ∨ re (3 * i + 1) = 1) ∧ ∀ G md, paO pf pn (pn + 1) 0 0 0 false G md = plK re r 0 (fun G md => (md, G)) G md))) 0 0) 0 0 u 18 [some (.ref 43), some (.int 1)] [] := by
    intro m
    induction m with
    | zero =>
      intro s r u rd fr b0 hm
      omega
    | succ m ih =>
      intro s r u rd fr b0 hm hs hr hF h3 h8 hinv hK hB
      have hpu := hF.at (h := 48) (by decide) hp
      refine r_iload_n 19 dX7_readPad_18 rfl rfl ?_
      refine r_if_eq 92 22 dX7_readPad_19 (by decide) rfl (fun q19 => absurd q19 (by decide)) (fun q19 => ?_)
      refine r_aload_n 23 dX7_readPad_22 rfl rfl rfl ?_
      refine r_callV0 26 dX7_readPad_23 rfl (tX7_readHop h3 hpu h8 hpn hs (by omega)) l_X7_218 mX7_readHop rfl (by repeat (first | assumption | refine gs_eq ?_ | refine gs_ne (by omega) ?_ | exact is_of (by assumption) | refine gs_is ?_)) rfl (by decide) (Nat.le_of_ble_eq_true rfl) (by decide) (qN fun w1 h1 => ?_)
      obtain ⟨hF0, s1, wr1, a, b, c, h3, h8, hR⟩ := h1
      have hF1 := hF.tr hF0
      have hp1 := hF1.at (h := 48) (by decide) hp
      rcases hR with ⟨hw1, hsl, hsn, hff, hen, bb, hbb, hpa⟩ | ⟨hw1, hsl, hfe⟩
      · have hKq : ∀ G md, paO pf pn (pn + 1) 0 0 0 false G md = plK (upd (upd (upd rd (3 * r) a) (3 * r + 1) b) (3 * r + 2) c) r 0 (fun G md => paO pf pn (pn + 1 - s1) s1 a c bb G md) G md := by
          intro G md
          rw [hK]
          refine plK_cg r 0 (fun k hk => ?_) (fun G md => hpa fr b0 G md) G md
          rw [pk_un (by omega), pk_un (by omega), pk_un (by omega)]
        have hrd : (upd (upd (upd rd (3 * r) a) (3 * r + 1) b) (3 * r + 2) c) (3 * r) = a ∧ (upd (upd (upd rd (3 * r) a) (3 * r + 1) b) (3 * r + 2) c) (3 * r + 1) = bI bb ∧ (upd (upd (upd rd (3 * r) a) (3 * r + 1) b) (3 * r + 2) c) (3 * r + 2) = c := ⟨by rw [pk_un (by omega), pk_un (by omega), pk_us], by rw [pk_un (by omega), pk_us, hbb], pk_us⟩
        have hKr : (letO pf pn s1 = 44 ∨ s1 = pn) → ∀ (K : GS → Int32 → Int32 × GS), (∀ G md, paO pf pn (pn + 1 - (s1 + 1)) (s1 + 1) a 0 bb G md = K G md) → ∀ G md, paO pf pn (pn + 1) 0 0 0 false G md = plK (upd (upd (upd rd (3 * r) a) (3 * r + 1) b) (3 * r + 2) c) (r + 1) 0 K G md := by
          intro hc K hKK G md
          rw [hKq, plK_snoc, Nat.zero_add, hrd.1, hrd.2.1, hrd.2.2]
          refine plK_cg r 0 (fun k hk => rfl) (fun G md => ?_) G md
          rw [pa_com hsn hc]
          cases tellO G a c (bI bb) with
          | none => rfl
          | some G1 => exact hKK G1 (md + 1)
        have hB2 : ∀ i, i < r + 1 → (upd (upd (upd rd (3 * r) a) (3 * r + 1) b) (3 * r + 2) c) (3 * i + 1) = 0 ∨ (upd (upd (upd rd (3 * r) a) (3 * r + 1) b) (3 * r + 2) c) (3 * i + 1) = 1 := by
          intro i hi
          by_cases e : i = r
          · rw [e, hrd.2.1]
            cases bb
            · exact Or.inl rfl
            · exact Or.inr rfl
          · rw [pk_un (by omega), pk_un (by omega), pk_un (by omega)]
            exact hB i (by omega)
        rcases Nat.lt_or_ge s1 pn with hlt | hge
        · by_cases hc : letO pf pn s1 = 44
          · have hinv2 : ffO pf pn (pn - (s1 + 1)) (s1 + 1) 0 0 = ffO pf pn pn 0 0 0 := by rw [← hinv, hff, (com_yes hc).2]
            have hK2 := hKr (Or.inl hc) _ (fun G md => rfl)
            refine r_aload_n 27 dX7_readPad_26 rfl rfl rfl ?_
            refine r_getf 30 dX7_readPad_27 rfl f_X7_203.r (by repeat (first | assumption | refine gs_eq ?_ | refine gs_ne (by omega) ?_ | exact is_of (by assumption) | refine gs_is ?_)) rfl ?_
            refine r_bipush (v := (-6)) 32 dX7_readPad_30 rfl (by decide) ?_
            refine r_icmp_ne 50 35 dX7_readPad_32 (by decide) rfl (fun q32 => absurd q32 (fun z => z hw1)) (fun q32 => ?_)
            refine r_aload_n 36 dX7_readPad_35 rfl rfl rfl ?_
            refine r_getf 39 dX7_readPad_36 rfl f_X7_200.r (by repeat (first | assumption | refine gs_eq ?_ | refine gs_ne (by omega) ?_ | exact is_of (by assumption) | refine gs_is ?_)) rfl ?_
            refine r_aload_n 40 dX7_readPad_39 rfl rfl rfl ?_
            refine r_getf 43 dX7_readPad_40 rfl f_X7_174.r (by repeat (first | assumption | refine gs_eq ?_ | refine gs_ne (by omega) ?_ | exact is_of (by assumption) | refine gs_is ?_)) rfl ?_
            refine r_icmp_ge 50 46 dX7_readPad_43 (by decide) rfl (fun q43 => absurd q43 (nI_ge (by omega) (by omega))) (fun q43 => ?_)
            refine r_iconst (v := 1) 47 dX7_readPad_46 rfl (by decide) ?_
            refine r_goto 51 dX7_readPad_47 (by decide) ?_
            refine r_istore_n (ls1 := [_, _]) 52 dX7_readPad_51 rfl (by decide) rfl rfl ?_
            refine r_iload_n 53 dX7_readPad_52 rfl rfl ?_
            refine r_if_eq 18 56 dX7_readPad_53 (by decide) rfl (fun q53 => absurd q53 (by decide)) (fun q53 => ?_)
            refine r_aload_n 57 dX7_readPad_56 rfl rfl rfl ?_
            refine r_aload_n 58 dX7_readPad_57 rfl rfl rfl ?_
            refine r_callV0 61 dX7_readPad_58 rfl (tX7_letter h3 hp1 hpn (by omega)) l_X7_206 mX7_letter rfl (by repeat (first | assumption | refine gs_eq ?_ | refine gs_ne (by omega) ?_ | exact is_of (by assumption) | refine gs_is ?_)) rfl (by decide) (Nat.le_of_ble_eq_true rfl) (by decide) (qI ?_)
            refine r_bipush (v := 44) 63 dX7_readPad_61 rfl (by decide) ?_
            refine r_icmp_ne 70 66 dX7_readPad_63 (by decide) rfl (fun q63 => absurd q63 (fun z => z hc)) (fun q63 => ?_)
            refine r_iconst (v := 1) 67 dX7_readPad_66 rfl (by decide) ?_
            refine r_goto 71 dX7_readPad_67 (by decide) ?_
            refine r_callV0 74 dX7_readPad_71 rfl (tX7_wants0 h3 hw1) l_X7_209 mX7_wants rfl (by repeat (first | assumption | refine gs_eq ?_ | refine gs_ne (by omega) ?_ | exact is_of (by assumption) | refine gs_is ?_)) rfl (by decide) (Nat.le_of_ble_eq_true rfl) (by decide) (qN fun w2 h2 => ?_)
            obtain ⟨hF2, h2⟩ := h2
            rw [nI_1, if_neg (by decide)] at h2
            have h82 := hF2.at (h := 58) (by decide) h8
            have hFF := hF1.tr (hF2.mono (fun q a => Or.inl a))
            refine r_aload_n 75 dX7_readPad_74 rfl rfl rfl ?_
            refine r_getf 78 dX7_readPad_75 rfl f_X7_203.r (by repeat (first | assumption | refine gs_eq ?_ | refine gs_ne (by omega) ?_ | exact is_of (by assumption) | refine gs_is ?_)) rfl ?_
            refine r_bipush (v := (-6)) 80 dX7_readPad_78 rfl (by decide) ?_
            refine r_icmp_ne 87 83 dX7_readPad_80 (by decide) rfl (fun q80 => absurd q80 (fun z => z rfl)) (fun q80 => ?_)
            refine r_iconst (v := 1) 84 dX7_readPad_83 rfl (by decide) ?_
            refine r_goto 88 dX7_readPad_84 (by decide) ?_
            refine r_istore_n (ls1 := [_, _]) 89 dX7_readPad_88 rfl (by decide) rfl rfl ?_
            refine r_goto 18 dX7_readPad_89 (by decide) ?_
            exact ih (s1 + 1) (r + 1) w2 _ a bb (by omega) (by omega) (by omega) hFF h2 h82 hinv2 hK2 hB2
          · refine r_aload_n 27 dX7_readPad_26 rfl rfl rfl ?_
            refine r_getf 30 dX7_readPad_27 rfl f_X7_203.r (by repeat (first | assumption | refine gs_eq ?_ | refine gs_ne (by omega) ?_ | exact is_of (by assumption) | refine gs_is ?_)) rfl ?_
            refine r_bipush (v := (-6)) 32 dX7_readPad_30 rfl (by decide) ?_
            refine r_icmp_ne 50 35 dX7_readPad_32 (by decide) rfl (fun q32 => absurd q32 (fun z => z hw1)) (fun q32 => ?_)
            refine r_aload_n 36 dX7_readPad_35 rfl rfl rfl ?_
            refine r_getf 39 dX7_readPad_36 rfl f_X7_200.r (by repeat (first | assumption | refine gs_eq ?_ | refine gs_ne (by omega) ?_ | exact is_of (by assumption) | refine gs_is ?_)) rfl ?_
            refine r_aload_n 40 dX7_readPad_39 rfl rfl rfl ?_
            refine r_getf 43 dX7_readPad_40 rfl f_X7_174.r (by repeat (first | assumption | refine gs_eq ?_ | refine gs_ne (by omega) ?_ | exact is_of (by assumption) | refine gs_is ?_)) rfl ?_
            refine r_icmp_ge 50 46 dX7_readPad_43 (by decide) rfl (fun q43 => absurd q43 (nI_ge (by omega) (by omega))) (fun q43 => ?_)
            refine r_iconst (v := 1) 47 dX7_readPad_46 rfl (by decide) ?_
            refine r_goto 51 dX7_readPad_47 (by decide) ?_
            refine r_istore_n (ls1 := [_, _]) 52 dX7_readPad_51 rfl (by decide) rfl rfl ?_
            refine r_iload_n 53 dX7_readPad_52 rfl rfl ?_
            refine r_if_eq 18 56 dX7_readPad_53 (by decide) rfl (fun q53 => absurd q53 (by decide)) (fun q53 => ?_)
            refine r_aload_n 57 dX7_readPad_56 rfl rfl rfl ?_
            refine r_aload_n 58 dX7_readPad_57 rfl rfl rfl ?_
            refine r_callV0 61 dX7_readPad_58 rfl (tX7_letter h3 hp1 hpn (by omega)) l_X7_206 mX7_letter rfl (by repeat (first | assumption | refine gs_eq ?_ | refine gs_ne (by omega) ?_ | exact is_of (by assumption) | refine gs_is ?_)) rfl (by decide) (Nat.le_of_ble_eq_true rfl) (by decide) (qI ?_)
            refine r_bipush (v := 44) 63 dX7_readPad_61 rfl (by decide) ?_
            refine r_icmp_ne 70 66 dX7_readPad_63 (by decide) rfl (fun q63 => ?_) (fun q63 => absurd q63 hc)
            refine r_iconst (v := 0) 71 dX7_readPad_70 rfl (by decide) ?_
            refine r_callV0 74 dX7_readPad_71 rfl (tX7_wants0 h3 hw1) l_X7_209 mX7_wants rfl (by repeat (first | assumption | refine gs_eq ?_ | refine gs_ne (by omega) ?_ | exact is_of (by assumption) | refine gs_is ?_)) rfl (by decide) (Nat.le_of_ble_eq_true rfl) (by decide) (qN fun w2 h2 => ?_)
            obtain ⟨hF2, h2⟩ := h2
            rw [nI_1, if_pos (by decide)] at h2
            have h82 := hF2.at (h := 58) (by decide) h8
            have hFF := hF1.tr (hF2.mono (fun q a => Or.inl a))
            refine r_aload_n 75 dX7_readPad_74 rfl rfl rfl ?_
            refine r_getf 78 dX7_readPad_75 rfl f_X7_203.r (by repeat (first | assumption | refine gs_eq ?_ | refine gs_ne (by omega) ?_ | exact is_of (by assumption) | refine gs_is ?_)) rfl ?_
            refine r_bipush (v := (-6)) 80 dX7_readPad_78 rfl (by decide) ?_
            refine r_icmp_ne 87 83 dX7_readPad_80 (by decide) rfl (fun q80 => ?_) (fun q80 => absurd q80 (nI_n6 (by omega)))
            refine r_iconst (v := 0) 88 dX7_readPad_87 rfl (by decide) ?_
            refine r_istore_n (ls1 := [_, _]) 89 dX7_readPad_88 rfl (by decide) rfl rfl ?_
            refine r_goto 18 dX7_readPad_89 (by decide) ?_
            exact out w2 _ _ _ _ hFF h2 h82 (by rw [← hinv, hff, com_no (by omega) hen hc]) (fun z => absurd z (nI_n6 (by omega)))
        · have hse : s1 = pn := by omega
          have hKe := hKr (Or.inr hse) (fun G md => (md, G)) (fun G md => by rw [hse]; exact pa_end)
          refine r_aload_n 27 dX7_readPad_26 rfl rfl rfl ?_
          refine r_getf 30 dX7_readPad_27 rfl f_X7_203.r (by repeat (first | assumption | refine gs_eq ?_ | refine gs_ne (by omega) ?_ | exact is_of (by assumption) | refine gs_is ?_)) rfl ?_
          refine r_bipush (v := (-6)) 32 dX7_readPad_30 rfl (by decide) ?_
          refine r_icmp_ne 50 35 dX7_readPad_32 (by decide) rfl (fun q32 => absurd q32 (fun z => z hw1)) (fun q32 => ?_)
          refine r_aload_n 36 dX7_readPad_35 rfl rfl rfl ?_
          refine r_getf 39 dX7_readPad_36 rfl f_X7_200.r (by repeat (first | assumption | refine gs_eq ?_ | refine gs_ne (by omega) ?_ | exact is_of (by assumption) | refine gs_is ?_)) rfl ?_
          refine r_aload_n 40 dX7_readPad_39 rfl rfl rfl ?_
          refine r_getf 43 dX7_readPad_40 rfl f_X7_174.r (by repeat (first | assumption | refine gs_eq ?_ | refine gs_ne (by omega) ?_ | exact is_of (by assumption) | refine gs_is ?_)) rfl ?_
          refine r_icmp_ge 50 46 dX7_readPad_43 (by decide) rfl (fun q43 => ?_) (fun q43 => absurd q43 (fun z => z (nI_le (by omega) (by omega))))
          refine r_iconst (v := 0) 51 dX7_readPad_50 rfl (by decide) ?_
          refine r_istore_n (ls1 := [_, _]) 52 dX7_readPad_51 rfl (by decide) rfl rfl ?_
          refine r_iload_n 53 dX7_readPad_52 rfl rfl ?_
          refine r_if_eq 18 56 dX7_readPad_53 (by decide) rfl (fun q53 => ?_) (fun q53 => absurd q53 (by decide))
          exact out w1 _ _ _ _ hF1 h3 h8 (hw1.trans (by rw [← hinv, hff, hse, Nat.sub_self]; rfl)) (fun _ => ⟨by omega, hB2, hKe⟩)
      · refine r_aload_n 27 dX7_readPad_26 rfl rfl rfl ?_
        refine r_getf 30 dX7_readPad_27 rfl f_X7_203.r (by repeat (first | assumption | refine gs_eq ?_ | refine gs_ne (by omega) ?_ | exact is_of (by assumption) | refine gs_is ?_)) rfl ?_
        refine r_bipush (v := (-6)) 32 dX7_readPad_30 rfl (by decide) ?_
        refine r_icmp_ne 50 35 dX7_readPad_32 (by decide) rfl (fun q32 => ?_) (fun q32 => absurd q32 hw1)
        refine r_iconst (v := 0) 51 dX7_readPad_50 rfl (by decide) ?_
        refine r_istore_n (ls1 := [_, _]) 52 dX7_readPad_51 rfl (by decide) rfl rfl ?_
        refine r_iload_n 53 dX7_readPad_52 rfl rfl ?_
        refine r_if_eq 18 56 dX7_readPad_53 (by decide) rfl (fun q53 => ?_) (fun q53 => absurd q53 (by decide))
        exact out w1 _ _ _ _ hF1 h3 h8 (hfe.trans hinv) (fun z => absurd z hw1)
  refine r_aload_n 1 dX7_readPad_0 rfl rfl rfl ?_
  refine r_iconst (v := nI 0) 2 dX7_readPad_1 rfl (by decide) ?_
  refine r_putf (fs1 := [_, _, _, _, _, _, _, _, _, _, _, _, _, _, _, _, _, _, _, _]) 5 dX7_readPad_2 rfl f_X7_212 (by repeat (first | assumption | refine gs_eq ?_ | refine gs_ne (by omega) ?_ | exact is_of (by assumption) | refine gs_is ?_)) rfl (by simp only [List.length_cons, List.length_nil]; omega) rfl ?_
  refine r_aload_n 6 dX7_readPad_5 rfl rfl rfl ?_
  refine r_iconst (v := nI 0) 7 dX7_readPad_6 rfl (by decide) ?_
  refine r_putf (fs1 := [_, _, _, _, _, _, _, _, _, _, _, _, _, _, _, _, _, _, _, _]) 10 dX7_readPad_7 rfl f_X7_200 (by repeat (first | assumption | refine gs_eq ?_ | refine gs_ne (by omega) ?_ | exact is_of (by assumption) | refine gs_is ?_)) rfl (by simp only [List.length_cons, List.length_nil]; omega) rfl ?_
  refine r_aload_n 11 dX7_readPad_10 rfl rfl rfl ?_
  refine r_bipush (v := (-6)) 13 dX7_readPad_11 rfl (by decide) ?_
  refine r_putf (fs1 := [_, _, _, _, _, _, _, _, _, _, _, _, _, _, _, _, _, _, _, _]) 16 dX7_readPad_13 rfl f_X7_203 (by repeat (first | assumption | refine gs_eq ?_ | refine gs_ne (by omega) ?_ | exact is_of (by assumption) | refine gs_is ?_)) rfl (by simp only [List.length_cons, List.length_nil]; omega) rfl ?_
  refine r_iconst (v := 1) 17 dX7_readPad_16 rfl (by decide) ?_
  refine r_istore_n (ls1 := [_, _]) 18 dX7_readPad_17 rfl (by decide) rfl rfl ?_
  exact loop (pn + 1) 0 0 _ rd 0 false (by omega) (Nat.zero_le _) (Nat.le_refl _) (Fr.sr (Fr.sr (Fr.st (S := fun q => q = 43 ∨ q = 58) (Or.inl rfl)) (Or.inl rfl)) (Or.inl rfl)) (by repeat (first | assumption | refine gs_eq ?_ | refine gs_ne (by omega) ?_ | exact is_of (by assumption) | refine gs_is ?_)) (by repeat (first | assumption | refine gs_eq ?_ | refine gs_ne (by omega) ?_ | exact is_of (by assumption) | refine gs_is ?_)) rfl (fun G md => rfl) (fun i hi => by omega)

