/-! ===== rows of hops, worths ===== -/
def rowsL (g : HP → Nat → Nat) : List HP → Nat → Nat → Nat
  | [], _, num => num
  | q :: t, M, num => if num < M then rowsL g t M (num + g q (M - num)) else num
def nR : Nat → (Nat → Int32) → Int32 → Int32 → Nat → Nat
  | 0, f, mv, jp, M => min (hopsC f mv jp).length M
  | k + 1, f, mv, jp, M => rowsL (fun q m => nR k (mkF f mv q) (mkM f mv q) (mkJ f mv q) m) (hopsC f mv jp) M 0
theorem rowsL_le {g : HP → Nat → Nat} (hg : ∀ q m, g q m ≤ m) : ∀ (l : List HP) (M num : Nat), num ≤ M → rowsL g l M num ≤ M
  | [], M, num, h => h
  | q :: t, M, num, h => by
    unfold rowsL
    split
    · have := hg q (M - num)
      exact rowsL_le hg t M _ (by omega)
    · exact h
theorem nR_le : ∀ (k : Nat) (f : Nat → Int32) (mv jp : Int32) (M : Nat), nR k f mv jp M ≤ M
  | 0, f, mv, jp, M => Nat.min_le_right _ _
  | k + 1, f, mv, jp, M => rowsL_le (fun q m => nR_le k _ _ _ m) _ M 0 (Nat.zero_le _)
theorem mkM_01 {f : Nat → Int32} {mv : Int32} {q : HP} (h : mv = 0 ∨ mv = 1) : mkM f mv q = 0 ∨ mkM f mv q = 1 := by
  unfold mkM
  split
  · rcases h with h | h <;> rw [h]
    · exact Or.inr rfl
    · exact Or.inl rfl
  · exact h
theorem mn_le {a b : Nat} (ha : a < 2147483648) (hb : b < 2147483648) : (if nI b < nI a then nI b else nI a) = nI (min a b) := by
  by_cases h : b < a
  · rw [if_pos (nI_lt h ha), Nat.min_eq_right (by omega)]
  · rw [if_neg (nI_nlt (by omega) hb), Nat.min_eq_left (by omega)]
theorem isSc.of {w w1 : PW} (k : isSc w) {pb ph : Nat} (hl : (pb = 34 ∧ ph = 37) ∨ (pb = 25 ∧ ph = 28) ∨ (pb = 16 ∧ ph = 19)) (hb : xBd w1 pb) (hh : xHp w1 ph) (hA : ∀ q, 16 ≤ q → q < 43 → ¬ (pb ≤ q ∧ q < pb + 9) → w1[q]? = w[q]?) : isSc w1 := by
  rcases hl with ⟨rfl, rfl⟩ | ⟨rfl, rfl⟩ | ⟨rfl, rfl⟩
  · exact ⟨hb, hh, k.2.2.1.ag (fun q a b => hA q (by omega) (by omega) (by omega)), k.2.2.2.1.ag (fun q a b => hA q (by omega) (by omega) (by omega)), k.2.2.2.2.1.ag (fun q a b => hA q (by omega) (by omega) (by omega)), k.2.2.2.2.2.ag (fun q a b => hA q (by omega) (by omega) (by omega))⟩
  · exact ⟨k.1.ag (fun q a b => hA q (by omega) (by omega) (by omega)), k.2.1.ag (fun q a b => hA q (by omega) (by omega) (by omega)), hb, hh, k.2.2.2.2.1.ag (fun q a b => hA q (by omega) (by omega) (by omega)), k.2.2.2.2.2.ag (fun q a b => hA q (by omega) (by omega) (by omega))⟩
  · exact ⟨k.1.ag (fun q a b => hA q (by omega) (by omega) (by omega)), k.2.1.ag (fun q a b => hA q (by omega) (by omega) (by omega)), k.2.2.1.ag (fun q a b => hA q (by omega) (by omega) (by omega)), k.2.2.2.1.ag (fun q a b => hA q (by omega) (by omega) (by omega)), hb, hh⟩
theorem isTp.fr {w w1 : PW} (k : isTp w) (h : ∀ q, q < 16 → w1[q]? = w[q]?) : isTp w1 := k.ag (h _ (by decide)) (h _ (by decide)) (h _ (by decide)) (h _ (by decide))
set_option maxRecDepth 100000 in
theorem tRows21 {Γ : CT} {w : PW} {f n : Nat → Int32} {mv jp : Int32} {M : Nat} (ht : isTp w) (hsc : isSc w) (hb : isBd w 16 f n mv jp) (hmv : mv = 0 ∨ mv = 1) (hM : M ≤ 20000) : Cl Γ yX6_numberOfRows XX6_numberOfRows 6 0 0 [.ref 15, .int (nI 1), .int (nI M)] w (rP (nI (nR 0 f mv jp M)) (fun w1 => Fr w w1 (fun q => 16 ≤ q ∧ q < 25) ∧ isSc w1)) := by
  refine Cl.of (ls := [some (.ref 15), some (.int (nI 1)), some (.int (nI M)), none, none]) rfl (by decide +kernel) (fun h => by cases h) (Nat.le_of_ble_eq_true rfl) rfl ?_
  have ry := ht.2.2.2
  obtain ⟨l0, hh⟩ := hsc.2.2.2.2.2
  have hh0 := hh.o
  refine r_aload_n 1 dX6_numberOfRows_0 rfl rfl rfl ?_
  refine r_ifnonnull 6 dX6_numberOfRows_1 (by decide) ?_
  refine r_aload_n 7 dX6_numberOfRows_6 rfl rfl rfl ?_
  refine r_getf 10 dX6_numberOfRows_7 rfl f_X6_236 (by repeat (first | assumption | exact isBd.o (by assumption) | exact isHp.o (by assumption) | exact isGm.o (by assumption) | exact isPd.o (by assumption) | refine gs_eq ?_ | refine gs_ne (by omega) ?_ | exact is_of (by assumption) | refine gs_is ?_)) rfl ?_
  refine r_aload_n 11 dX6_numberOfRows_10 rfl rfl rfl ?_
  refine r_getf 14 dX6_numberOfRows_11 rfl f_X6_204 (by repeat (first | assumption | exact isBd.o (by assumption) | exact isHp.o (by assumption) | exact isGm.o (by assumption) | exact isPd.o (by assumption) | refine gs_eq ?_ | refine gs_ne (by omega) ?_ | exact is_of (by assumption) | refine gs_is ?_)) rfl ?_
  refine r_callV0 17 dX6_numberOfRows_14 rfl (tX3_list hb hh (by unfold apH; decide) (lenJ hmv) (lenM hmv)) l_X6_240 mX3_list rfl (by repeat (first | assumption | exact isBd.o (by assumption) | exact isHp.o (by assumption) | exact isGm.o (by assumption) | exact isPd.o (by assumption) | refine gs_eq ?_ | refine gs_ne (by omega) ?_ | exact is_of (by assumption) | refine gs_is ?_)) rfl (by decide) (Nat.le_of_ble_eq_true rfl) (by decide) (qN fun w1 h1 => ?_)
  have hF1 : Fr w w1 (fun q => 16 ≤ q ∧ q < 25) := h1.1.mono (fun q a => ⟨by have := a.1; omega, by have := a.2; omega⟩)
  have hA1 : ∀ q, (q < 19 ∨ 25 ≤ q) → w1[q]? = w[q]? := fun q a => h1.1.2 q (by unfold hS; omega)
  have ht1 := ht.fr (fun q a => hA1 q (by omega))
  have hb1 := hb.ag (fun q a b => hA1 q (by omega))
  have hs1 : isSc w1 := hsc.of (pb := 16) (ph := 19) (by decide) ⟨_, _, _, _, hb1⟩ ⟨_, h1.2⟩ (fun q a b c => hA1 q (by omega))
  have ry1 := (hA1 15 (by decide)).trans ry
  have hh10 := h1.2.o
  have hlen := h1.2.1
  refine r_iload_n 18 dX6_numberOfRows_17 rfl rfl ?_
  refine r_iconst (v := nI 1) 19 dX6_numberOfRows_18 rfl (by decide) ?_
  refine r_icmp_gt 34 22 dX6_numberOfRows_19 (by decide) rfl (fun q19 => absurd q19 (by decide)) (fun q19 => ?_)
  refine r_aload_n 23 dX6_numberOfRows_22 rfl rfl rfl ?_
  refine r_getf 26 dX6_numberOfRows_23 rfl f_X6_236 (by repeat (first | assumption | exact isBd.o (by assumption) | exact isHp.o (by assumption) | exact isGm.o (by assumption) | exact isPd.o (by assumption) | refine gs_eq ?_ | refine gs_ne (by omega) ?_ | exact is_of (by assumption) | refine gs_is ?_)) rfl ?_
  refine r_getf 29 dX6_numberOfRows_26 rfl f_X6_188.r (by repeat (first | assumption | exact isBd.o (by assumption) | exact isHp.o (by assumption) | exact isGm.o (by assumption) | exact isPd.o (by assumption) | refine gs_eq ?_ | refine gs_ne (by omega) ?_ | exact is_of (by assumption) | refine gs_is ?_)) rfl ?_
  refine r_iload_n 30 dX6_numberOfRows_29 rfl rfl ?_
  refine r_callS0 33 dX6_numberOfRows_30 rfl (tJ9_min) l_X6_253 mJ9_min_7cf53 rfl (by decide) (Nat.le_of_ble_eq_true rfl) (by decide) (qI ?_)
  refine r_iret dX6_numberOfRows_33 rfl (by decide) (by decide) ?_
  exact ⟨by rw [mn_le (by omega) (by omega)]; rfl, hF1, hs1⟩

set_option maxRecDepth 100000 in
theorem tRows11 {Γ : CT} {w : PW} {f n : Nat → Int32} {mv jp : Int32} {M : Nat} (ht : isTp w) (hsc : isSc w) (hb : isBd w 25 f n mv jp) (hmv : mv = 0 ∨ mv = 1) (hM : M ≤ 20000) : Cl Γ yX6_numberOfRows XX6_numberOfRows 8 0 0 [.ref 14, .int (nI 1), .int (nI M)] w (rP (nI (nR 0 f mv jp M)) (fun w1 => Fr w w1 (fun q => 16 ≤ q ∧ q < 34) ∧ isSc w1)) := by
  refine Cl.of (ls := [some (.ref 14), some (.int (nI 1)), some (.int (nI M)), none, none]) rfl (by decide +kernel) (fun h => by cases h) (Nat.le_of_ble_eq_true rfl) rfl ?_
  have ry := ht.2.2.1
  obtain ⟨l0, hh⟩ := hsc.2.2.2.1
  have hh0 := hh.o
  refine r_aload_n 1 dX6_numberOfRows_0 rfl rfl rfl ?_
  refine r_ifnonnull 6 dX6_numberOfRows_1 (by decide) ?_
  refine r_aload_n 7 dX6_numberOfRows_6 rfl rfl rfl ?_
  refine r_getf 10 dX6_numberOfRows_7 rfl f_X6_236 (by repeat (first | assumption | exact isBd.o (by assumption) | exact isHp.o (by assumption) | exact isGm.o (by assumption) | exact isPd.o (by assumption) | refine gs_eq ?_ | refine gs_ne (by omega) ?_ | exact is_of (by assumption) | refine gs_is ?_)) rfl ?_
  refine r_aload_n 11 dX6_numberOfRows_10 rfl rfl rfl ?_
  refine r_getf 14 dX6_numberOfRows_11 rfl f_X6_204 (by repeat (first | assumption | exact isBd.o (by assumption) | exact isHp.o (by assumption) | exact isGm.o (by assumption) | exact isPd.o (by assumption) | refine gs_eq ?_ | refine gs_ne (by omega) ?_ | exact is_of (by assumption) | refine gs_is ?_)) rfl ?_
  refine r_callV0 17 dX6_numberOfRows_14 rfl (tX3_list hb hh (by unfold apH; decide) (lenJ hmv) (lenM hmv)) l_X6_240 mX3_list rfl (by repeat (first | assumption | exact isBd.o (by assumption) | exact isHp.o (by assumption) | exact isGm.o (by assumption) | exact isPd.o (by assumption) | refine gs_eq ?_ | refine gs_ne (by omega) ?_ | exact is_of (by assumption) | refine gs_is ?_)) rfl (by decide) (Nat.le_of_ble_eq_true rfl) (by decide) (qN fun w1 h1 => ?_)
  have hF1 : Fr w w1 (fun q => 16 ≤ q ∧ q < 34) := h1.1.mono (fun q a => ⟨by have := a.1; omega, by have := a.2; omega⟩)
  have hA1 : ∀ q, (q < 28 ∨ 34 ≤ q) → w1[q]? = w[q]? := fun q a => h1.1.2 q (by unfold hS; omega)
  have ht1 := ht.fr (fun q a => hA1 q (by omega))
  have hb1 := hb.ag (fun q a b => hA1 q (by omega))
  have hs1 : isSc w1 := hsc.of (pb := 25) (ph := 28) (by decide) ⟨_, _, _, _, hb1⟩ ⟨_, h1.2⟩ (fun q a b c => hA1 q (by omega))
  have ry1 := (hA1 14 (by decide)).trans ry
  have hh10 := h1.2.o
  have hlen := h1.2.1
  refine r_iload_n 18 dX6_numberOfRows_17 rfl rfl ?_
  refine r_iconst (v := nI 1) 19 dX6_numberOfRows_18 rfl (by decide) ?_
  refine r_icmp_gt 34 22 dX6_numberOfRows_19 (by decide) rfl (fun q19 => absurd q19 (by decide)) (fun q19 => ?_)
  refine r_aload_n 23 dX6_numberOfRows_22 rfl rfl rfl ?_
  refine r_getf 26 dX6_numberOfRows_23 rfl f_X6_236 (by repeat (first | assumption | exact isBd.o (by assumption) | exact isHp.o (by assumption) | exact isGm.o (by assumption) | exact isPd.o (by assumption) | refine gs_eq ?_ | refine gs_ne (by omega) ?_ | exact is_of (by assumption) | refine gs_is ?_)) rfl ?_
  refine r_getf 29 dX6_numberOfRows_26 rfl f_X6_188.r (by repeat (first | assumption | exact isBd.o (by assumption) | exact isHp.o (by assumption) | exact isGm.o (by assumption) | exact isPd.o (by assumption) | refine gs_eq ?_ | refine gs_ne (by omega) ?_ | exact is_of (by assumption) | refine gs_is ?_)) rfl ?_
  refine r_iload_n 30 dX6_numberOfRows_29 rfl rfl ?_
  refine r_callS0 33 dX6_numberOfRows_30 rfl (tJ9_min) l_X6_253 mJ9_min_7cf53 rfl (by decide) (Nat.le_of_ble_eq_true rfl) (by decide) (qI ?_)
  refine r_iret dX6_numberOfRows_33 rfl (by decide) (by decide) ?_
  exact ⟨by rw [mn_le (by omega) (by omega)]; rfl, hF1, hs1⟩

set_option maxRecDepth 100000 in
theorem tRows01 {Γ : CT} {w : PW} {f n : Nat → Int32} {mv jp : Int32} {M : Nat} (ht : isTp w) (hsc : isSc w) (hb : isBd w 34 f n mv jp) (hmv : mv = 0 ∨ mv = 1) (hM : M ≤ 20000) : Cl Γ yX6_numberOfRows XX6_numberOfRows 10 0 0 [.ref 13, .int (nI 1), .int (nI M)] w (rP (nI (nR 0 f mv jp M)) (fun w1 => Fr w w1 (fun q => 16 ≤ q ∧ q < 43) ∧ isSc w1)) := by
  refine Cl.of (ls := [some (.ref 13), some (.int (nI 1)), some (.int (nI M)), none, none]) rfl (by decide +kernel) (fun h => by cases h) (Nat.le_of_ble_eq_true rfl) rfl ?_
  have ry := ht.2.1
  obtain ⟨l0, hh⟩ := hsc.2.1
  have hh0 := hh.o
  refine r_aload_n 1 dX6_numberOfRows_0 rfl rfl rfl ?_
  refine r_ifnonnull 6 dX6_numberOfRows_1 (by decide) ?_
  refine r_aload_n 7 dX6_numberOfRows_6 rfl rfl rfl ?_
  refine r_getf 10 dX6_numberOfRows_7 rfl f_X6_236 (by repeat (first | assumption | exact isBd.o (by assumption) | exact isHp.o (by assumption) | exact isGm.o (by assumption) | exact isPd.o (by assumption) | refine gs_eq ?_ | refine gs_ne (by omega) ?_ | exact is_of (by assumption) | refine gs_is ?_)) rfl ?_
  refine r_aload_n 11 dX6_numberOfRows_10 rfl rfl rfl ?_
  refine r_getf 14 dX6_numberOfRows_11 rfl f_X6_204 (by repeat (first | assumption | exact isBd.o (by assumption) | exact isHp.o (by assumption) | exact isGm.o (by assumption) | exact isPd.o (by assumption) | refine gs_eq ?_ | refine gs_ne (by omega) ?_ | exact is_of (by assumption) | refine gs_is ?_)) rfl ?_
  refine r_callV0 17 dX6_numberOfRows_14 rfl (tX3_list hb hh (by unfold apH; decide) (lenJ hmv) (lenM hmv)) l_X6_240 mX3_list rfl (by repeat (first | assumption | exact isBd.o (by assumption) | exact isHp.o (by assumption) | exact isGm.o (by assumption) | exact isPd.o (by assumption) | refine gs_eq ?_ | refine gs_ne (by omega) ?_ | exact is_of (by assumption) | refine gs_is ?_)) rfl (by decide) (Nat.le_of_ble_eq_true rfl) (by decide) (qN fun w1 h1 => ?_)
  have hF1 : Fr w w1 (fun q => 16 ≤ q ∧ q < 43) := h1.1.mono (fun q a => ⟨by have := a.1; omega, by have := a.2; omega⟩)
  have hA1 : ∀ q, (q < 37 ∨ 43 ≤ q) → w1[q]? = w[q]? := fun q a => h1.1.2 q (by unfold hS; omega)
  have ht1 := ht.fr (fun q a => hA1 q (by omega))
  have hb1 := hb.ag (fun q a b => hA1 q (by omega))
  have hs1 : isSc w1 := hsc.of (pb := 34) (ph := 37) (by decide) ⟨_, _, _, _, hb1⟩ ⟨_, h1.2⟩ (fun q a b c => hA1 q (by omega))
  have ry1 := (hA1 13 (by decide)).trans ry
  have hh10 := h1.2.o
  have hlen := h1.2.1
  refine r_iload_n 18 dX6_numberOfRows_17 rfl rfl ?_
  refine r_iconst (v := nI 1) 19 dX6_numberOfRows_18 rfl (by decide) ?_
  refine r_icmp_gt 34 22 dX6_numberOfRows_19 (by decide) rfl (fun q19 => absurd q19 (by decide)) (fun q19 => ?_)
  refine r_aload_n 23 dX6_numberOfRows_22 rfl rfl rfl ?_
  refine r_getf 26 dX6_numberOfRows_23 rfl f_X6_236 (by repeat (first | assumption | exact isBd.o (by assumption) | exact isHp.o (by assumption) | exact isGm.o (by assumption) | exact isPd.o (by assumption) | refine gs_eq ?_ | refine gs_ne (by omega) ?_ | exact is_of (by assumption) | refine gs_is ?_)) rfl ?_
  refine r_getf 29 dX6_numberOfRows_26 rfl f_X6_188.r (by repeat (first | assumption | exact isBd.o (by assumption) | exact isHp.o (by assumption) | exact isGm.o (by assumption) | exact isPd.o (by assumption) | refine gs_eq ?_ | refine gs_ne (by omega) ?_ | exact is_of (by assumption) | refine gs_is ?_)) rfl ?_
  refine r_iload_n 30 dX6_numberOfRows_29 rfl rfl ?_
  refine r_callS0 33 dX6_numberOfRows_30 rfl (tJ9_min) l_X6_253 mJ9_min_7cf53 rfl (by decide) (Nat.le_of_ble_eq_true rfl) (by decide) (qI ?_)
  refine r_iret dX6_numberOfRows_33 rfl (by decide) (by decide) ?_
  exact ⟨by rw [mn_le (by omega) (by omega)]; rfl, hF1, hs1⟩

set_option maxRecDepth 100000 in
theorem tRows12 {Γ : CT} {w : PW} {f n : Nat → Int32} {mv jp : Int32} {M : Nat} (ht : isTp w) (hsc : isSc w) (hb : isBd w 25 f n mv jp) (hmv : mv = 0 ∨ mv = 1) (hM : M ≤ 20000) : Cl Γ yX6_numberOfRows XX6_numberOfRows 8 0 0 [.ref 14, .int (nI 2), .int (nI M)] w (rP (nI (nR 1 f mv jp M)) (fun w1 => Fr w w1 (fun q => 16 ≤ q ∧ q < 34) ∧ isSc w1)) := by
  have ry := ht.2.2.1
  obtain ⟨l0, hh⟩ := hsc.2.2.2.1
  have hh0 := hh.o
  have loop : ∀ (m i : Nat) (u : PW) (num : Nat), i + m = (hopsC f mv jp).length → (Fr w u (fun q => 16 ≤ q ∧ q < 34)) → (isTp u) → (isSc u) → (isBd u 25 f n mv jp) → (isHp u 28 (hopsC f mv jp)) → (num ≤ M) → (rowsL (fun q m => nR 0 (mkF f mv q) (mkM f mv q) (mkJ f mv q) m) ((hopsC f mv jp).drop i) M num = nR 1 f mv jp M) → Rn Γ XX6_numberOfRows (rmO 8 0 0) none (FinM (rP (nI (nR 1 f mv jp M)) (fun w1 => Fr w w1 (fun q => 16 ≤ q ∧ q < 34) ∧ isSc w1)) 0 0) 0 0 u 39 [some (.ref 14), some (.int (nI 2)), some (.int (nI M)), some (.int (nI num)), some (.int (nI i))] [] := by
    intro m
    induction m with
    | zero =>
      intro i u num hi hF hut hus hub huh hnum hR
      have h9 : i = (hopsC f mv jp).length := by omega
      subst h9
      have ry0 := hut.2.2.1
      have huh0 := huh.o
      have hl9 := huh.1
      rw [List.drop_length] at hR
      refine r_iload 41 dX6_numberOfRows_39 rfl rfl ?_
      refine r_aload_n 42 dX6_numberOfRows_41 rfl rfl rfl ?_
      refine r_getf 45 dX6_numberOfRows_42 rfl f_X6_236 (by repeat (first | assumption | exact isBd.o (by assumption) | exact isHp.o (by assumption) | exact isGm.o (by assumption) | exact isPd.o (by assumption) | refine gs_eq ?_ | refine gs_ne (by omega) ?_ | exact is_of (by assumption) | refine gs_is ?_)) rfl ?_
      refine r_getf 48 dX6_numberOfRows_45 rfl f_X6_188.r (by repeat (first | assumption | exact isBd.o (by assumption) | exact isHp.o (by assumption) | exact isGm.o (by assumption) | exact isPd.o (by assumption) | refine gs_eq ?_ | refine gs_ne (by omega) ?_ | exact is_of (by assumption) | refine gs_is ?_)) rfl ?_
      refine r_icmp_ge 84 51 dX6_numberOfRows_48 (by decide) rfl (fun q48 => ?_) (fun q48 => absurd q48 (fun z => z (nI_le (by omega) (by omega))))
      refine r_iload_n 85 dX6_numberOfRows_84 rfl rfl ?_
      refine r_iret dX6_numberOfRows_85 rfl (by decide) (by decide) ?_
      exact ⟨by rw [← hR]; rfl, hF, hus⟩
    | succ m ih =>
      intro i u num hi hF hut hus hub huh hnum hR
      have ry0 := hut.2.2.1
      have huh0 := huh.o
      have hl9 := huh.1
      obtain ⟨q, hq, hdr⟩ := drop_c (l := hopsC f mv jp) (i := i) (by omega)
      rw [hdr, rowsL] at hR
      have hPH := hopsC_PH (List.mem_of_getElem? hq)
      have hto : q.2.1 < 48 := by rw [hPH.2.2.2.2.1]; exact nk_lt hPH.1
      obtain ⟨f2, n2, v2, p2, hnb⟩ := hus.2.2.2.2.1
      have hle := nR_le 0 (mkF f mv q) (mkM f mv q) (mkJ f mv q) (M - num)
      refine r_iload 41 dX6_numberOfRows_39 rfl rfl ?_
      refine r_aload_n 42 dX6_numberOfRows_41 rfl rfl rfl ?_
      refine r_getf 45 dX6_numberOfRows_42 rfl f_X6_236 (by repeat (first | assumption | exact isBd.o (by assumption) | exact isHp.o (by assumption) | exact isGm.o (by assumption) | exact isPd.o (by assumption) | refine gs_eq ?_ | refine gs_ne (by omega) ?_ | exact is_of (by assumption) | refine gs_is ?_)) rfl ?_
      refine r_getf 48 dX6_numberOfRows_45 rfl f_X6_188.r (by repeat (first | assumption | exact isBd.o (by assumption) | exact isHp.o (by assumption) | exact isGm.o (by assumption) | exact isPd.o (by assumption) | refine gs_eq ?_ | refine gs_ne (by omega) ?_ | exact is_of (by assumption) | refine gs_is ?_)) rfl ?_
      refine r_icmp_ge 84 51 dX6_numberOfRows_48 (by decide) rfl (fun q48 => absurd q48 (nI_ge (by omega) (by omega))) (fun q48 => ?_)
      refine r_iload_n 52 dX6_numberOfRows_51 rfl rfl ?_
      refine r_iload_n 53 dX6_numberOfRows_52 rfl rfl ?_
      refine r_icmp_ge 84 56 dX6_numberOfRows_53 (by decide) rfl (fun q53 => ?_) (fun q53 => ?_)
      · refine r_iload_n 85 dX6_numberOfRows_84 rfl rfl ?_
        refine r_iret dX6_numberOfRows_85 rfl (by decide) (by decide) ?_
        exact ⟨by rw [if_neg (fun z => absurd (nI_lt z (by omega)) (Int32.not_lt.mpr q53))] at hR; rw [← hR], hF, hus⟩
      · have hlt : num < M := by
          rcases Nat.lt_or_ge num M with h9 | h9
          · exact h9
          · exact absurd (nI_le h9 (by omega)) q53
        refine r_aload_n 57 dX6_numberOfRows_56 rfl rfl rfl ?_
        refine r_iload 59 dX6_numberOfRows_57 rfl rfl ?_
        refine r_callV0 62 dX6_numberOfRows_59 rfl (tX5_tryHop (y1 := 15) (nb := 16) (nh := 19) ry0 hut.2.2.2 hub huh hnb hq hto hPH.1 (by decide) (by unfold apH; decide) (by decide) (by decide)) l_X6_216 mX5_tryHop rfl (by repeat (first | assumption | exact isBd.o (by assumption) | exact isHp.o (by assumption) | exact isGm.o (by assumption) | exact isPd.o (by assumption) | refine gs_eq ?_ | refine gs_ne (by omega) ?_ | exact is_of (by assumption) | refine gs_is ?_)) rfl (by decide) (Nat.le_of_ble_eq_true rfl) (by decide) (qN fun w1 h1 => ?_)
        have hA1 : ∀ q, (q < 16 ∨ 19 ≤ q) → w1[q]? = u[q]? := fun q a => h1.1.2 q (by unfold bS; omega)
        have hut1 := hut.fr (fun q a => hA1 q (by omega))
        have hus1 : isSc w1 := hus.of (pb := 16) (ph := 19) (by decide) ⟨_, _, _, _, h1.2⟩ (xHp.ag hus.2.2.2.2.2 (fun q a b => hA1 q (by omega))) (fun q a b c => hA1 q (by omega))
        have ry1 := (hA1 14 (by decide)).trans ry0
        refine r_iload_n 63 dX6_numberOfRows_62 rfl rfl ?_
        refine r_aload_n 64 dX6_numberOfRows_63 rfl rfl rfl ?_
        refine r_getf 67 dX6_numberOfRows_64 rfl f_X6_220 (by repeat (first | assumption | exact isBd.o (by assumption) | exact isHp.o (by assumption) | exact isGm.o (by assumption) | exact isPd.o (by assumption) | refine gs_eq ?_ | refine gs_ne (by omega) ?_ | exact is_of (by assumption) | refine gs_is ?_)) rfl ?_
        refine r_iload_n 68 dX6_numberOfRows_67 rfl rfl ?_
        refine r_iconst (v := nI 1) 69 dX6_numberOfRows_68 rfl (by decide) ?_
        refine r_isub 70 dX6_numberOfRows_69 rfl ?_
        refine r_iload_n 71 dX6_numberOfRows_70 rfl rfl ?_
        refine r_iload_n 72 dX6_numberOfRows_71 rfl rfl ?_
        refine r_isub 73 dX6_numberOfRows_72 rfl ?_
        rw [pk_sub (a := 2) (b := 1) (by decide), pk_sub (a := M) (b := num) (by omega)]
        refine r_callS0 76 dX6_numberOfRows_73 rfl (tRows21 hut1 hus1 h1.2 (mkM_01 hmv) (by omega)) l_X6_209 mX6_numberOfRows rfl (by decide) (Nat.le_of_ble_eq_true rfl) (by decide) (qP fun w2 h2 => ?_)
        have hA2 : ∀ q, (q < 16 ∨ 25 ≤ q) → w2[q]? = w1[q]? := fun q a => h2.1.2 q (by omega)
        have hut2 := hut1.fr (fun q a => hA2 q (by omega))
        refine r_iadd 77 dX6_numberOfRows_76 rfl ?_
        rw [nI_add]
        refine r_istore_n (ls1 := [_, _, _, _, _]) 78 dX6_numberOfRows_77 rfl (by decide) rfl rfl ?_
        refine r_iinc (ls1 := [_, _, _, _, _]) 81 dX6_numberOfRows_78 rfl (by decide) rfl rfl (nI_1 i) rfl ?_
        refine r_goto 39 dX6_numberOfRows_81 (by decide) ?_
        exact ih (i + 1) w2 (num + nR 0 (mkF f mv q) (mkM f mv q) (mkJ f mv q) (M - num)) (by omega) ((hF.tr (h1.1.mono (fun q a => ⟨by have := a.1; omega, by have := a.2; omega⟩))).tr (h2.1.mono (fun q a => ⟨a.1, by have := a.2; omega⟩))) hut2 h2.2 (hub.ag (fun q a b => (hA2 q (by omega)).trans (hA1 q (by omega)))) (huh.ag (fun q a b => (hA2 q (by omega)).trans (hA1 q (by omega)))) (by omega) (by rw [← hR, if_pos hlt])
  refine Cl.of (ls := [some (.ref 14), some (.int (nI 2)), some (.int (nI M)), none, none]) rfl (by decide +kernel) (fun h => by cases h) (Nat.le_of_ble_eq_true rfl) rfl ?_
  refine r_aload_n 1 dX6_numberOfRows_0 rfl rfl rfl ?_
  refine r_ifnonnull 6 dX6_numberOfRows_1 (by decide) ?_
  refine r_aload_n 7 dX6_numberOfRows_6 rfl rfl rfl ?_
  refine r_getf 10 dX6_numberOfRows_7 rfl f_X6_236 (by repeat (first | assumption | exact isBd.o (by assumption) | exact isHp.o (by assumption) | exact isGm.o (by assumption) | exact isPd.o (by assumption) | refine gs_eq ?_ | refine gs_ne (by omega) ?_ | exact is_of (by assumption) | refine gs_is ?_)) rfl ?_
  refine r_aload_n 11 dX6_numberOfRows_10 rfl rfl rfl ?_
  refine r_getf 14 dX6_numberOfRows_11 rfl f_X6_204 (by repeat (first | assumption | exact isBd.o (by assumption) | exact isHp.o (by assumption) | exact isGm.o (by assumption) | exact isPd.o (by assumption) | refine gs_eq ?_ | refine gs_ne (by omega) ?_ | exact is_of (by assumption) | refine gs_is ?_)) rfl ?_
  refine r_callV0 17 dX6_numberOfRows_14 rfl (tX3_list hb hh (by unfold apH; decide) (lenJ hmv) (lenM hmv)) l_X6_240 mX3_list rfl (by repeat (first | assumption | exact isBd.o (by assumption) | exact isHp.o (by assumption) | exact isGm.o (by assumption) | exact isPd.o (by assumption) | refine gs_eq ?_ | refine gs_ne (by omega) ?_ | exact is_of (by assumption) | refine gs_is ?_)) rfl (by decide) (Nat.le_of_ble_eq_true rfl) (by decide) (qN fun w1 h1 => ?_)
  have hF1 : Fr w w1 (fun q => 16 ≤ q ∧ q < 34) := h1.1.mono (fun q a => ⟨by have := a.1; omega, by have := a.2; omega⟩)
  have hA1 : ∀ q, (q < 28 ∨ 34 ≤ q) → w1[q]? = w[q]? := fun q a => h1.1.2 q (by unfold hS; omega)
  have ht1 := ht.fr (fun q a => hA1 q (by omega))
  have hb1 := hb.ag (fun q a b => hA1 q (by omega))
  have hs1 : isSc w1 := hsc.of (pb := 25) (ph := 28) (by decide) ⟨_, _, _, _, hb1⟩ ⟨_, h1.2⟩ (fun q a b c => hA1 q (by omega))
  have ry1 := (hA1 14 (by decide)).trans ry
  have hh10 := h1.2.o
  have hlen := h1.2.1
  refine r_iload_n 18 dX6_numberOfRows_17 rfl rfl ?_
  refine r_iconst (v := nI 1) 19 dX6_numberOfRows_18 rfl (by decide) ?_
  refine r_icmp_gt 34 22 dX6_numberOfRows_19 (by decide) rfl (fun q19 => ?_) (fun q19 => absurd q19 (by decide))
  refine r_iconst (v := nI 0) 35 dX6_numberOfRows_34 rfl (by decide) ?_
  refine r_istore_n (ls1 := [_, _, _, _, _]) 36 dX6_numberOfRows_35 rfl (by decide) rfl rfl ?_
  refine r_iconst (v := nI 0) 37 dX6_numberOfRows_36 rfl (by decide) ?_
  refine r_istore (ls1 := [_, _, _, _, _]) 39 dX6_numberOfRows_37 rfl (by decide) rfl rfl ?_
  exact loop (hopsC f mv jp).length 0 w1 0 (by omega) hF1 ht1 hs1 hb1 h1.2 (Nat.zero_le _) rfl

set_option maxRecDepth 100000 in
theorem tRows02 {Γ : CT} {w : PW} {f n : Nat → Int32} {mv jp : Int32} {M : Nat} (ht : isTp w) (hsc : isSc w) (hb : isBd w 34 f n mv jp) (hmv : mv = 0 ∨ mv = 1) (hM : M ≤ 20000) : Cl Γ yX6_numberOfRows XX6_numberOfRows 10 0 0 [.ref 13, .int (nI 2), .int (nI M)] w (rP (nI (nR 1 f mv jp M)) (fun w1 => Fr w w1 (fun q => 16 ≤ q ∧ q < 43) ∧ isSc w1)) := by
  have ry := ht.2.1
  obtain ⟨l0, hh⟩ := hsc.2.1
  have hh0 := hh.o
  have loop : ∀ (m i : Nat) (u : PW) (num : Nat), i + m = (hopsC f mv jp).length → (Fr w u (fun q => 16 ≤ q ∧ q < 43)) → (isTp u) → (isSc u) → (isBd u 34 f n mv jp) → (isHp u 37 (hopsC f mv jp)) → (num ≤ M) → (rowsL (fun q m => nR 0 (mkF f mv q) (mkM f mv q) (mkJ f mv q) m) ((hopsC f mv jp).drop i) M num = nR 1 f mv jp M) → Rn Γ XX6_numberOfRows (rmO 10 0 0) none (FinM (rP (nI (nR 1 f mv jp M)) (fun w1 => Fr w w1 (fun q => 16 ≤ q ∧ q < 43) ∧ isSc w1)) 0 0) 0 0 u 39 [some (.ref 13), some (.int (nI 2)), some (.int (nI M)), some (.int (nI num)), some (.int (nI i))] [] := by
    intro m
    induction m with
    | zero =>
      intro i u num hi hF hut hus hub huh hnum hR
      have h9 : i = (hopsC f mv jp).length := by omega
      subst h9
      have ry0 := hut.2.1
      have huh0 := huh.o
      have hl9 := huh.1
      rw [List.drop_length] at hR
      refine r_iload 41 dX6_numberOfRows_39 rfl rfl ?_
      refine r_aload_n 42 dX6_numberOfRows_41 rfl rfl rfl ?_
      refine r_getf 45 dX6_numberOfRows_42 rfl f_X6_236 (by repeat (first | assumption | exact isBd.o (by assumption) | exact isHp.o (by assumption) | exact isGm.o (by assumption) | exact isPd.o (by assumption) | refine gs_eq ?_ | refine gs_ne (by omega) ?_ | exact is_of (by assumption) | refine gs_is ?_)) rfl ?_
      refine r_getf 48 dX6_numberOfRows_45 rfl f_X6_188.r (by repeat (first | assumption | exact isBd.o (by assumption) | exact isHp.o (by assumption) | exact isGm.o (by assumption) | exact isPd.o (by assumption) | refine gs_eq ?_ | refine gs_ne (by omega) ?_ | exact is_of (by assumption) | refine gs_is ?_)) rfl ?_
      refine r_icmp_ge 84 51 dX6_numberOfRows_48 (by decide) rfl (fun q48 => ?_) (fun q48 => absurd q48 (fun z => z (nI_le (by omega) (by omega))))
      refine r_iload_n 85 dX6_numberOfRows_84 rfl rfl ?_
      refine r_iret dX6_numberOfRows_85 rfl (by decide) (by decide) ?_
      exact ⟨by rw [← hR]; rfl, hF, hus⟩
    | succ m ih =>
      intro i u num hi hF hut hus hub huh hnum hR
      have ry0 := hut.2.1
      have huh0 := huh.o
      have hl9 := huh.1
      obtain ⟨q, hq, hdr⟩ := drop_c (l := hopsC f mv jp) (i := i) (by omega)
      rw [hdr, rowsL] at hR
      have hPH := hopsC_PH (List.mem_of_getElem? hq)
      have hto : q.2.1 < 48 := by rw [hPH.2.2.2.2.1]; exact nk_lt hPH.1
      obtain ⟨f2, n2, v2, p2, hnb⟩ := hus.2.2.1
      have hle := nR_le 0 (mkF f mv q) (mkM f mv q) (mkJ f mv q) (M - num)
      refine r_iload 41 dX6_numberOfRows_39 rfl rfl ?_
      refine r_aload_n 42 dX6_numberOfRows_41 rfl rfl rfl ?_
      refine r_getf 45 dX6_numberOfRows_42 rfl f_X6_236 (by repeat (first | assumption | exact isBd.o (by assumption) | exact isHp.o (by assumption) | exact isGm.o (by assumption) | exact isPd.o (by assumption) | refine gs_eq ?_ | refine gs_ne (by omega) ?_ | exact is_of (by assumption) | refine gs_is ?_)) rfl ?_
      refine r_getf 48 dX6_numberOfRows_45 rfl f_X6_188.r (by repeat (first | assumption | exact isBd.o (by assumption) | exact isHp.o (by assumption) | exact isGm.o (by assumption) | exact isPd.o (by assumption) | refine gs_eq ?_ | refine gs_ne (by omega) ?_ | exact is_of (by assumption) | refine gs_is ?_)) rfl ?_
      refine r_icmp_ge 84 51 dX6_numberOfRows_48 (by decide) rfl (fun q48 => absurd q48 (nI_ge (by omega) (by omega))) (fun q48 => ?_)
      refine r_iload_n 52 dX6_numberOfRows_51 rfl rfl ?_
      refine r_iload_n 53 dX6_numberOfRows_52 rfl rfl ?_
      refine r_icmp_ge 84 56 dX6_numberOfRows_53 (by decide) rfl (fun q53 => ?_) (fun q53 => ?_)
      · refine r_iload_n 85 dX6_numberOfRows_84 rfl rfl ?_
        refine r_iret dX6_numberOfRows_85 rfl (by decide) (by decide) ?_
        exact ⟨by rw [if_neg (fun z => absurd (nI_lt z (by omega)) (Int32.not_lt.mpr q53))] at hR; rw [← hR], hF, hus⟩
      · have hlt : num < M := by
          rcases Nat.lt_or_ge num M with h9 | h9
          · exact h9
          · exact absurd (nI_le h9 (by omega)) q53
        refine r_aload_n 57 dX6_numberOfRows_56 rfl rfl rfl ?_
        refine r_iload 59 dX6_numberOfRows_57 rfl rfl ?_
        refine r_callV0 62 dX6_numberOfRows_59 rfl (tX5_tryHop (y1 := 14) (nb := 25) (nh := 28) ry0 hut.2.2.1 hub huh hnb hq hto hPH.1 (by decide) (by unfold apH; decide) (by decide) (by decide)) l_X6_216 mX5_tryHop rfl (by repeat (first | assumption | exact isBd.o (by assumption) | exact isHp.o (by assumption) | exact isGm.o (by assumption) | exact isPd.o (by assumption) | refine gs_eq ?_ | refine gs_ne (by omega) ?_ | exact is_of (by assumption) | refine gs_is ?_)) rfl (by decide) (Nat.le_of_ble_eq_true rfl) (by decide) (qN fun w1 h1 => ?_)
        have hA1 : ∀ q, (q < 25 ∨ 28 ≤ q) → w1[q]? = u[q]? := fun q a => h1.1.2 q (by unfold bS; omega)
        have hut1 := hut.fr (fun q a => hA1 q (by omega))
        have hus1 : isSc w1 := hus.of (pb := 25) (ph := 28) (by decide) ⟨_, _, _, _, h1.2⟩ (xHp.ag hus.2.2.2.1 (fun q a b => hA1 q (by omega))) (fun q a b c => hA1 q (by omega))
        have ry1 := (hA1 13 (by decide)).trans ry0
        refine r_iload_n 63 dX6_numberOfRows_62 rfl rfl ?_
        refine r_aload_n 64 dX6_numberOfRows_63 rfl rfl rfl ?_
        refine r_getf 67 dX6_numberOfRows_64 rfl f_X6_220 (by repeat (first | assumption | exact isBd.o (by assumption) | exact isHp.o (by assumption) | exact isGm.o (by assumption) | exact isPd.o (by assumption) | refine gs_eq ?_ | refine gs_ne (by omega) ?_ | exact is_of (by assumption) | refine gs_is ?_)) rfl ?_
        refine r_iload_n 68 dX6_numberOfRows_67 rfl rfl ?_
        refine r_iconst (v := nI 1) 69 dX6_numberOfRows_68 rfl (by decide) ?_
        refine r_isub 70 dX6_numberOfRows_69 rfl ?_
        refine r_iload_n 71 dX6_numberOfRows_70 rfl rfl ?_
        refine r_iload_n 72 dX6_numberOfRows_71 rfl rfl ?_
        refine r_isub 73 dX6_numberOfRows_72 rfl ?_
        rw [pk_sub (a := 2) (b := 1) (by decide), pk_sub (a := M) (b := num) (by omega)]
        refine r_callS0 76 dX6_numberOfRows_73 rfl (tRows11 hut1 hus1 h1.2 (mkM_01 hmv) (by omega)) l_X6_209 mX6_numberOfRows rfl (by decide) (Nat.le_of_ble_eq_true rfl) (by decide) (qP fun w2 h2 => ?_)
        have hA2 : ∀ q, (q < 16 ∨ 34 ≤ q) → w2[q]? = w1[q]? := fun q a => h2.1.2 q (by omega)
        have hut2 := hut1.fr (fun q a => hA2 q (by omega))
        refine r_iadd 77 dX6_numberOfRows_76 rfl ?_
        rw [nI_add]
        refine r_istore_n (ls1 := [_, _, _, _, _]) 78 dX6_numberOfRows_77 rfl (by decide) rfl rfl ?_
        refine r_iinc (ls1 := [_, _, _, _, _]) 81 dX6_numberOfRows_78 rfl (by decide) rfl rfl (nI_1 i) rfl ?_
        refine r_goto 39 dX6_numberOfRows_81 (by decide) ?_
        exact ih (i + 1) w2 (num + nR 0 (mkF f mv q) (mkM f mv q) (mkJ f mv q) (M - num)) (by omega) ((hF.tr (h1.1.mono (fun q a => ⟨by have := a.1; omega, by have := a.2; omega⟩))).tr (h2.1.mono (fun q a => ⟨a.1, by have := a.2; omega⟩))) hut2 h2.2 (hub.ag (fun q a b => (hA2 q (by omega)).trans (hA1 q (by omega)))) (huh.ag (fun q a b => (hA2 q (by omega)).trans (hA1 q (by omega)))) (by omega) (by rw [← hR, if_pos hlt])
  refine Cl.of (ls := [some (.ref 13), some (.int (nI 2)), some (.int (nI M)), none, none]) rfl (by decide +kernel) (fun h => by cases h) (Nat.le_of_ble_eq_true rfl) rfl ?_
  refine r_aload_n 1 dX6_numberOfRows_0 rfl rfl rfl ?_
  refine r_ifnonnull 6 dX6_numberOfRows_1 (by decide) ?_
  refine r_aload_n 7 dX6_numberOfRows_6 rfl rfl rfl ?_
  refine r_getf 10 dX6_numberOfRows_7 rfl f_X6_236 (by repeat (first | assumption | exact isBd.o (by assumption) | exact isHp.o (by assumption) | exact isGm.o (by assumption) | exact isPd.o (by assumption) | refine gs_eq ?_ | refine gs_ne (by omega) ?_ | exact is_of (by assumption) | refine gs_is ?_)) rfl ?_
  refine r_aload_n 11 dX6_numberOfRows_10 rfl rfl rfl ?_
  refine r_getf 14 dX6_numberOfRows_11 rfl f_X6_204 (by repeat (first | assumption | exact isBd.o (by assumption) | exact isHp.o (by assumption) | exact isGm.o (by assumption) | exact isPd.o (by assumption) | refine gs_eq ?_ | refine gs_ne (by omega) ?_ | exact is_of (by assumption) | refine gs_is ?_)) rfl ?_
  refine r_callV0 17 dX6_numberOfRows_14 rfl (tX3_list hb hh (by unfold apH; decide) (lenJ hmv) (lenM hmv)) l_X6_240 mX3_list rfl (by repeat (first | assumption | exact isBd.o (by assumption) | exact isHp.o (by assumption) | exact isGm.o (by assumption) | exact isPd.o (by assumption) | refine gs_eq ?_ | refine gs_ne (by omega) ?_ | exact is_of (by assumption) | refine gs_is ?_)) rfl (by decide) (Nat.le_of_ble_eq_true rfl) (by decide) (qN fun w1 h1 => ?_)
  have hF1 : Fr w w1 (fun q => 16 ≤ q ∧ q < 43) := h1.1.mono (fun q a => ⟨by have := a.1; omega, by have := a.2; omega⟩)
  have hA1 : ∀ q, (q < 37 ∨ 43 ≤ q) → w1[q]? = w[q]? := fun q a => h1.1.2 q (by unfold hS; omega)
  have ht1 := ht.fr (fun q a => hA1 q (by omega))
  have hb1 := hb.ag (fun q a b => hA1 q (by omega))
  have hs1 : isSc w1 := hsc.of (pb := 34) (ph := 37) (by decide) ⟨_, _, _, _, hb1⟩ ⟨_, h1.2⟩ (fun q a b c => hA1 q (by omega))
  have ry1 := (hA1 13 (by decide)).trans ry
  have hh10 := h1.2.o
  have hlen := h1.2.1
  refine r_iload_n 18 dX6_numberOfRows_17 rfl rfl ?_
  refine r_iconst (v := nI 1) 19 dX6_numberOfRows_18 rfl (by decide) ?_
  refine r_icmp_gt 34 22 dX6_numberOfRows_19 (by decide) rfl (fun q19 => ?_) (fun q19 => absurd q19 (by decide))
  refine r_iconst (v := nI 0) 35 dX6_numberOfRows_34 rfl (by decide) ?_
  refine r_istore_n (ls1 := [_, _, _, _, _]) 36 dX6_numberOfRows_35 rfl (by decide) rfl rfl ?_
  refine r_iconst (v := nI 0) 37 dX6_numberOfRows_36 rfl (by decide) ?_
  refine r_istore (ls1 := [_, _, _, _, _]) 39 dX6_numberOfRows_37 rfl (by decide) rfl rfl ?_
  exact loop (hopsC f mv jp).length 0 w1 0 (by omega) hF1 ht1 hs1 hb1 h1.2 (Nat.zero_le _) rfl

set_option maxRecDepth 100000 in
theorem tRows03 {Γ : CT} {w : PW} {f n : Nat → Int32} {mv jp : Int32} {M : Nat} (ht : isTp w) (hsc : isSc w) (hb : isBd w 34 f n mv jp) (hmv : mv = 0 ∨ mv = 1) (hM : M ≤ 20000) : Cl Γ yX6_numberOfRows XX6_numberOfRows 10 0 0 [.ref 13, .int (nI 3), .int (nI M)] w (rP (nI (nR 2 f mv jp M)) (fun w1 => Fr w w1 (fun q => 16 ≤ q ∧ q < 43) ∧ isSc w1)) := by
  have ry := ht.2.1
  obtain ⟨l0, hh⟩ := hsc.2.1
  have hh0 := hh.o
  have loop : ∀ (m i : Nat) (u : PW) (num : Nat), i + m = (hopsC f mv jp).length → (Fr w u (fun q => 16 ≤ q ∧ q < 43)) → (isTp u) → (isSc u) → (isBd u 34 f n mv jp) → (isHp u 37 (hopsC f mv jp)) → (num ≤ M) → (rowsL (fun q m => nR 1 (mkF f mv q) (mkM f mv q) (mkJ f mv q) m) ((hopsC f mv jp).drop i) M num = nR 2 f mv jp M) → Rn Γ XX6_numberOfRows (rmO 10 0 0) none (FinM (rP (nI (nR 2 f mv jp M)) (fun w1 => Fr w w1 (fun q => 16 ≤ q ∧ q < 43) ∧ isSc w1)) 0 0) 0 0 u 39 [some (.ref 13), some (.int (nI 3)), some (.int (nI M)), some (.int (nI num)), some (.int (nI i))] [] := by
    intro m
    induction m with
    | zero =>
      intro i u num hi hF hut hus hub huh hnum hR
      have h9 : i = (hopsC f mv jp).length := by omega
      subst h9
      have ry0 := hut.2.1
      have huh0 := huh.o
      have hl9 := huh.1
      rw [List.drop_length] at hR
      refine r_iload 41 dX6_numberOfRows_39 rfl rfl ?_
      refine r_aload_n 42 dX6_numberOfRows_41 rfl rfl rfl ?_
      refine r_getf 45 dX6_numberOfRows_42 rfl f_X6_236 (by repeat (first | assumption | exact isBd.o (by assumption) | exact isHp.o (by assumption) | exact isGm.o (by assumption) | exact isPd.o (by assumption) | refine gs_eq ?_ | refine gs_ne (by omega) ?_ | exact is_of (by assumption) | refine gs_is ?_)) rfl ?_
      refine r_getf 48 dX6_numberOfRows_45 rfl f_X6_188.r (by repeat (first | assumption | exact isBd.o (by assumption) | exact isHp.o (by assumption) | exact isGm.o (by assumption) | exact isPd.o (by assumption) | refine gs_eq ?_ | refine gs_ne (by omega) ?_ | exact is_of (by assumption) | refine gs_is ?_)) rfl ?_
      refine r_icmp_ge 84 51 dX6_numberOfRows_48 (by decide) rfl (fun q48 => ?_) (fun q48 => absurd q48 (fun z => z (nI_le (by omega) (by omega))))
      refine r_iload_n 85 dX6_numberOfRows_84 rfl rfl ?_
      refine r_iret dX6_numberOfRows_85 rfl (by decide) (by decide) ?_
      exact ⟨by rw [← hR]; rfl, hF, hus⟩
    | succ m ih =>
      intro i u num hi hF hut hus hub huh hnum hR
      have ry0 := hut.2.1
      have huh0 := huh.o
      have hl9 := huh.1
      obtain ⟨q, hq, hdr⟩ := drop_c (l := hopsC f mv jp) (i := i) (by omega)
      rw [hdr, rowsL] at hR
      have hPH := hopsC_PH (List.mem_of_getElem? hq)
      have hto : q.2.1 < 48 := by rw [hPH.2.2.2.2.1]; exact nk_lt hPH.1
      obtain ⟨f2, n2, v2, p2, hnb⟩ := hus.2.2.1
      have hle := nR_le 1 (mkF f mv q) (mkM f mv q) (mkJ f mv q) (M - num)
      refine r_iload 41 dX6_numberOfRows_39 rfl rfl ?_
      refine r_aload_n 42 dX6_numberOfRows_41 rfl rfl rfl ?_
      refine r_getf 45 dX6_numberOfRows_42 rfl f_X6_236 (by repeat (first | assumption | exact isBd.o (by assumption) | exact isHp.o (by assumption) | exact isGm.o (by assumption) | exact isPd.o (by assumption) | refine gs_eq ?_ | refine gs_ne (by omega) ?_ | exact is_of (by assumption) | refine gs_is ?_)) rfl ?_
      refine r_getf 48 dX6_numberOfRows_45 rfl f_X6_188.r (by repeat (first | assumption | exact isBd.o (by assumption) | exact isHp.o (by assumption) | exact isGm.o (by assumption) | exact isPd.o (by assumption) | refine gs_eq ?_ | refine gs_ne (by omega) ?_ | exact is_of (by assumption) | refine gs_is ?_)) rfl ?_
      refine r_icmp_ge 84 51 dX6_numberOfRows_48 (by decide) rfl (fun q48 => absurd q48 (nI_ge (by omega) (by omega))) (fun q48 => ?_)
      refine r_iload_n 52 dX6_numberOfRows_51 rfl rfl ?_
      refine r_iload_n 53 dX6_numberOfRows_52 rfl rfl ?_
      refine r_icmp_ge 84 56 dX6_numberOfRows_53 (by decide) rfl (fun q53 => ?_) (fun q53 => ?_)
      · refine r_iload_n 85 dX6_numberOfRows_84 rfl rfl ?_
        refine r_iret dX6_numberOfRows_85 rfl (by decide) (by decide) ?_
        exact ⟨by rw [if_neg (fun z => absurd (nI_lt z (by omega)) (Int32.not_lt.mpr q53))] at hR; rw [← hR], hF, hus⟩
      · have hlt : num < M := by
          rcases Nat.lt_or_ge num M with h9 | h9
          · exact h9
          · exact absurd (nI_le h9 (by omega)) q53
        refine r_aload_n 57 dX6_numberOfRows_56 rfl rfl rfl ?_
        refine r_iload 59 dX6_numberOfRows_57 rfl rfl ?_
        refine r_callV0 62 dX6_numberOfRows_59 rfl (tX5_tryHop (y1 := 14) (nb := 25) (nh := 28) ry0 hut.2.2.1 hub huh hnb hq hto hPH.1 (by decide) (by unfold apH; decide) (by decide) (by decide)) l_X6_216 mX5_tryHop rfl (by repeat (first | assumption | exact isBd.o (by assumption) | exact isHp.o (by assumption) | exact isGm.o (by assumption) | exact isPd.o (by assumption) | refine gs_eq ?_ | refine gs_ne (by omega) ?_ | exact is_of (by assumption) | refine gs_is ?_)) rfl (by decide) (Nat.le_of_ble_eq_true rfl) (by decide) (qN fun w1 h1 => ?_)
        have hA1 : ∀ q, (q < 25 ∨ 28 ≤ q) → w1[q]? = u[q]? := fun q a => h1.1.2 q (by unfold bS; omega)
        have hut1 := hut.fr (fun q a => hA1 q (by omega))
        have hus1 : isSc w1 := hus.of (pb := 25) (ph := 28) (by decide) ⟨_, _, _, _, h1.2⟩ (xHp.ag hus.2.2.2.1 (fun q a b => hA1 q (by omega))) (fun q a b c => hA1 q (by omega))
        have ry1 := (hA1 13 (by decide)).trans ry0
        refine r_iload_n 63 dX6_numberOfRows_62 rfl rfl ?_
        refine r_aload_n 64 dX6_numberOfRows_63 rfl rfl rfl ?_
        refine r_getf 67 dX6_numberOfRows_64 rfl f_X6_220 (by repeat (first | assumption | exact isBd.o (by assumption) | exact isHp.o (by assumption) | exact isGm.o (by assumption) | exact isPd.o (by assumption) | refine gs_eq ?_ | refine gs_ne (by omega) ?_ | exact is_of (by assumption) | refine gs_is ?_)) rfl ?_
        refine r_iload_n 68 dX6_numberOfRows_67 rfl rfl ?_
        refine r_iconst (v := nI 1) 69 dX6_numberOfRows_68 rfl (by decide) ?_
        refine r_isub 70 dX6_numberOfRows_69 rfl ?_
        refine r_iload_n 71 dX6_numberOfRows_70 rfl rfl ?_
        refine r_iload_n 72 dX6_numberOfRows_71 rfl rfl ?_
        refine r_isub 73 dX6_numberOfRows_72 rfl ?_
        rw [pk_sub (a := 3) (b := 1) (by decide), pk_sub (a := M) (b := num) (by omega)]
        refine r_callS0 76 dX6_numberOfRows_73 rfl (tRows12 hut1 hus1 h1.2 (mkM_01 hmv) (by omega)) l_X6_209 mX6_numberOfRows rfl (by decide) (Nat.le_of_ble_eq_true rfl) (by decide) (qP fun w2 h2 => ?_)
        have hA2 : ∀ q, (q < 16 ∨ 34 ≤ q) → w2[q]? = w1[q]? := fun q a => h2.1.2 q (by omega)
        have hut2 := hut1.fr (fun q a => hA2 q (by omega))
        refine r_iadd 77 dX6_numberOfRows_76 rfl ?_
        rw [nI_add]
        refine r_istore_n (ls1 := [_, _, _, _, _]) 78 dX6_numberOfRows_77 rfl (by decide) rfl rfl ?_
        refine r_iinc (ls1 := [_, _, _, _, _]) 81 dX6_numberOfRows_78 rfl (by decide) rfl rfl (nI_1 i) rfl ?_
        refine r_goto 39 dX6_numberOfRows_81 (by decide) ?_
        exact ih (i + 1) w2 (num + nR 1 (mkF f mv q) (mkM f mv q) (mkJ f mv q) (M - num)) (by omega) ((hF.tr (h1.1.mono (fun q a => ⟨by have := a.1; omega, by have := a.2; omega⟩))).tr (h2.1.mono (fun q a => ⟨a.1, by have := a.2; omega⟩))) hut2 h2.2 (hub.ag (fun q a b => (hA2 q (by omega)).trans (hA1 q (by omega)))) (huh.ag (fun q a b => (hA2 q (by omega)).trans (hA1 q (by omega)))) (by omega) (by rw [← hR, if_pos hlt])
  refine Cl.of (ls := [some (.ref 13), some (.int (nI 3)), some (.int (nI M)), none, none]) rfl (by decide +kernel) (fun h => by cases h) (Nat.le_of_ble_eq_true rfl) rfl ?_
  refine r_aload_n 1 dX6_numberOfRows_0 rfl rfl rfl ?_
  refine r_ifnonnull 6 dX6_numberOfRows_1 (by decide) ?_
  refine r_aload_n 7 dX6_numberOfRows_6 rfl rfl rfl ?_
  refine r_getf 10 dX6_numberOfRows_7 rfl f_X6_236 (by repeat (first | assumption | exact isBd.o (by assumption) | exact isHp.o (by assumption) | exact isGm.o (by assumption) | exact isPd.o (by assumption) | refine gs_eq ?_ | refine gs_ne (by omega) ?_ | exact is_of (by assumption) | refine gs_is ?_)) rfl ?_
  refine r_aload_n 11 dX6_numberOfRows_10 rfl rfl rfl ?_
  refine r_getf 14 dX6_numberOfRows_11 rfl f_X6_204 (by repeat (first | assumption | exact isBd.o (by assumption) | exact isHp.o (by assumption) | exact isGm.o (by assumption) | exact isPd.o (by assumption) | refine gs_eq ?_ | refine gs_ne (by omega) ?_ | exact is_of (by assumption) | refine gs_is ?_)) rfl ?_
  refine r_callV0 17 dX6_numberOfRows_14 rfl (tX3_list hb hh (by unfold apH; decide) (lenJ hmv) (lenM hmv)) l_X6_240 mX3_list rfl (by repeat (first | assumption | exact isBd.o (by assumption) | exact isHp.o (by assumption) | exact isGm.o (by assumption) | exact isPd.o (by assumption) | refine gs_eq ?_ | refine gs_ne (by omega) ?_ | exact is_of (by assumption) | refine gs_is ?_)) rfl (by decide) (Nat.le_of_ble_eq_true rfl) (by decide) (qN fun w1 h1 => ?_)
  have hF1 : Fr w w1 (fun q => 16 ≤ q ∧ q < 43) := h1.1.mono (fun q a => ⟨by have := a.1; omega, by have := a.2; omega⟩)
  have hA1 : ∀ q, (q < 37 ∨ 43 ≤ q) → w1[q]? = w[q]? := fun q a => h1.1.2 q (by unfold hS; omega)
  have ht1 := ht.fr (fun q a => hA1 q (by omega))
  have hb1 := hb.ag (fun q a b => hA1 q (by omega))
  have hs1 : isSc w1 := hsc.of (pb := 34) (ph := 37) (by decide) ⟨_, _, _, _, hb1⟩ ⟨_, h1.2⟩ (fun q a b c => hA1 q (by omega))
  have ry1 := (hA1 13 (by decide)).trans ry
  have hh10 := h1.2.o
  have hlen := h1.2.1
  refine r_iload_n 18 dX6_numberOfRows_17 rfl rfl ?_
  refine r_iconst (v := nI 1) 19 dX6_numberOfRows_18 rfl (by decide) ?_
  refine r_icmp_gt 34 22 dX6_numberOfRows_19 (by decide) rfl (fun q19 => ?_) (fun q19 => absurd q19 (by decide))
  refine r_iconst (v := nI 0) 35 dX6_numberOfRows_34 rfl (by decide) ?_
  refine r_istore_n (ls1 := [_, _, _, _, _]) 36 dX6_numberOfRows_35 rfl (by decide) rfl rfl ?_
  refine r_iconst (v := nI 0) 37 dX6_numberOfRows_36 rfl (by decide) ?_
  refine r_istore (ls1 := [_, _, _, _, _]) 39 dX6_numberOfRows_37 rfl (by decide) rfl rfl ?_
  exact loop (hopsC f mv jp).length 0 w1 0 (by omega) hF1 ht1 hs1 hb1 h1.2 (Nat.zero_le _) rfl

