/-! ===== worths ===== -/
def wnO (n : Nat → Int32) (sd : Int32) : Int32 := menO n sd + 3 * kngO n sd - (menO n (1 - sd) + 3 * kngO n (1 - sd))
def bsO (own : Bool) (g : HP → Int32) : List HP → Bool → Int32 → Int32
  | [], _, best => best
  | q :: t, fst, best => bsO own g t false (if fst = true ∨ (if own = true then best < g q else g q < best) then g q else best)
def wB : Nat → (Nat → Int32) → (Nat → Int32) → Int32 → Int32 → Int32 → Int32
  | 0, _, n, _, _, sd => wnO n sd
  | k + 1, f, n, mv, jp, sd => if (hopsC f mv jp).length = 0 then (if mv = sd then wnO n sd - 100 else wnO n sd + 100) else bsO (decide (mv = sd)) (fun q => wB k (mkF f mv q) (mkN f n mv q) (mkM f mv q) (mkJ f mv q) sd) (hopsC f mv jp) true 0
set_option maxRecDepth 100000 in
theorem tWorth20 {Γ : CT} {w : PW} {f n : Nat → Int32} {mv jp sd : Int32} (ht : isTp w) (hsc : isSc w) (hb : isBd w 16 f n mv jp) (hmv : mv = 0 ∨ mv = 1) : Cl Γ yX6_worthBehind XX6_worthBehind 4 0 0 [.ref 15, .int (nI 0), .int sd] w (rP (wB 0 f n mv jp sd) (fun w1 => Fr w w1 (fun q => 16 ≤ q ∧ q < 25) ∧ isSc w1)) := by
  refine Cl.of (ls := [some (.ref 15), some (.int (nI 0)), some (.int sd), none, none, none, none, none, none]) rfl (by decide +kernel) (fun h => by cases h) (Nat.le_of_ble_eq_true rfl) rfl ?_
  have ry := ht.2.2.2
  obtain ⟨l0, hh⟩ := hsc.2.2.2.2.2
  have hh0 := hh.o
  refine r_aload_n 1 dX6_worthBehind_0 rfl rfl rfl ?_
  refine r_ifnonnull 6 dX6_worthBehind_1 (by decide) ?_
  refine r_aload_n 7 dX6_worthBehind_6 rfl rfl rfl ?_
  refine r_getf 10 dX6_worthBehind_7 rfl f_X6_204 (by repeat (first | assumption | exact isBd.o (by assumption) | exact isHp.o (by assumption) | exact isGm.o (by assumption) | exact isPd.o (by assumption) | refine gs_eq ?_ | refine gs_ne (by omega) ?_ | exact is_of (by assumption) | refine gs_is ?_)) rfl ?_
  refine r_astore_n (ls1 := [_, _, _, _, _, _, _, _, _]) 11 dX6_worthBehind_10 rfl (by decide) rfl rfl rfl ?_
  refine r_aload_n 12 dX6_worthBehind_11 rfl rfl rfl ?_
  refine r_iload_n 13 dX6_worthBehind_12 rfl rfl ?_
  refine r_callV0 16 dX6_worthBehind_13 rfl (tX0_worthOf hb) l_X6_185 mX0_worthOf rfl (by repeat (first | assumption | exact isBd.o (by assumption) | exact isHp.o (by assumption) | exact isGm.o (by assumption) | exact isPd.o (by assumption) | refine gs_eq ?_ | refine gs_ne (by omega) ?_ | exact is_of (by assumption) | refine gs_is ?_)) rfl (by decide) (Nat.le_of_ble_eq_true rfl) (by decide) (qI ?_)
  refine r_aload_n 17 dX6_worthBehind_16 rfl rfl rfl ?_
  refine r_iconst (v := 1) 18 dX6_worthBehind_17 rfl (by decide) ?_
  refine r_iload_n 19 dX6_worthBehind_18 rfl rfl ?_
  refine r_isub 20 dX6_worthBehind_19 rfl ?_
  refine r_callV0 23 dX6_worthBehind_20 rfl (tX0_worthOf hb) l_X6_185 mX0_worthOf rfl (by repeat (first | assumption | exact isBd.o (by assumption) | exact isHp.o (by assumption) | exact isGm.o (by assumption) | exact isPd.o (by assumption) | refine gs_eq ?_ | refine gs_ne (by omega) ?_ | exact is_of (by assumption) | refine gs_is ?_)) rfl (by decide) (Nat.le_of_ble_eq_true rfl) (by decide) (qI ?_)
  refine r_isub 24 dX6_worthBehind_23 rfl ?_
  refine r_istore (ls1 := [_, _, _, _, _, _, _, _, _]) 26 dX6_worthBehind_24 rfl (by decide) rfl rfl ?_
  refine r_iload_n 27 dX6_worthBehind_26 rfl rfl ?_
  refine r_if_gt 33 30 dX6_worthBehind_27 (by decide) rfl (fun q27 => absurd q27 (by decide)) (fun q27 => ?_)
  refine r_iload 32 dX6_worthBehind_30 rfl rfl ?_
  refine r_iret dX6_worthBehind_32 rfl (by decide) (by decide) ?_
  exact ⟨rfl, Fr.rf, hsc⟩

set_option maxRecDepth 100000 in
theorem tWorth10 {Γ : CT} {w : PW} {f n : Nat → Int32} {mv jp sd : Int32} (ht : isTp w) (hsc : isSc w) (hb : isBd w 25 f n mv jp) (hmv : mv = 0 ∨ mv = 1) : Cl Γ yX6_worthBehind XX6_worthBehind 6 0 0 [.ref 14, .int (nI 0), .int sd] w (rP (wB 0 f n mv jp sd) (fun w1 => Fr w w1 (fun q => 16 ≤ q ∧ q < 34) ∧ isSc w1)) := by
  refine Cl.of (ls := [some (.ref 14), some (.int (nI 0)), some (.int sd), none, none, none, none, none, none]) rfl (by decide +kernel) (fun h => by cases h) (Nat.le_of_ble_eq_true rfl) rfl ?_
  have ry := ht.2.2.1
  obtain ⟨l0, hh⟩ := hsc.2.2.2.1
  have hh0 := hh.o
  refine r_aload_n 1 dX6_worthBehind_0 rfl rfl rfl ?_
  refine r_ifnonnull 6 dX6_worthBehind_1 (by decide) ?_
  refine r_aload_n 7 dX6_worthBehind_6 rfl rfl rfl ?_
  refine r_getf 10 dX6_worthBehind_7 rfl f_X6_204 (by repeat (first | assumption | exact isBd.o (by assumption) | exact isHp.o (by assumption) | exact isGm.o (by assumption) | exact isPd.o (by assumption) | refine gs_eq ?_ | refine gs_ne (by omega) ?_ | exact is_of (by assumption) | refine gs_is ?_)) rfl ?_
  refine r_astore_n (ls1 := [_, _, _, _, _, _, _, _, _]) 11 dX6_worthBehind_10 rfl (by decide) rfl rfl rfl ?_
  refine r_aload_n 12 dX6_worthBehind_11 rfl rfl rfl ?_
  refine r_iload_n 13 dX6_worthBehind_12 rfl rfl ?_
  refine r_callV0 16 dX6_worthBehind_13 rfl (tX0_worthOf hb) l_X6_185 mX0_worthOf rfl (by repeat (first | assumption | exact isBd.o (by assumption) | exact isHp.o (by assumption) | exact isGm.o (by assumption) | exact isPd.o (by assumption) | refine gs_eq ?_ | refine gs_ne (by omega) ?_ | exact is_of (by assumption) | refine gs_is ?_)) rfl (by decide) (Nat.le_of_ble_eq_true rfl) (by decide) (qI ?_)
  refine r_aload_n 17 dX6_worthBehind_16 rfl rfl rfl ?_
  refine r_iconst (v := 1) 18 dX6_worthBehind_17 rfl (by decide) ?_
  refine r_iload_n 19 dX6_worthBehind_18 rfl rfl ?_
  refine r_isub 20 dX6_worthBehind_19 rfl ?_
  refine r_callV0 23 dX6_worthBehind_20 rfl (tX0_worthOf hb) l_X6_185 mX0_worthOf rfl (by repeat (first | assumption | exact isBd.o (by assumption) | exact isHp.o (by assumption) | exact isGm.o (by assumption) | exact isPd.o (by assumption) | refine gs_eq ?_ | refine gs_ne (by omega) ?_ | exact is_of (by assumption) | refine gs_is ?_)) rfl (by decide) (Nat.le_of_ble_eq_true rfl) (by decide) (qI ?_)
  refine r_isub 24 dX6_worthBehind_23 rfl ?_
  refine r_istore (ls1 := [_, _, _, _, _, _, _, _, _]) 26 dX6_worthBehind_24 rfl (by decide) rfl rfl ?_
  refine r_iload_n 27 dX6_worthBehind_26 rfl rfl ?_
  refine r_if_gt 33 30 dX6_worthBehind_27 (by decide) rfl (fun q27 => absurd q27 (by decide)) (fun q27 => ?_)
  refine r_iload 32 dX6_worthBehind_30 rfl rfl ?_
  refine r_iret dX6_worthBehind_32 rfl (by decide) (by decide) ?_
  exact ⟨rfl, Fr.rf, hsc⟩

set_option maxRecDepth 100000 in
theorem tWorth00 {Γ : CT} {w : PW} {f n : Nat → Int32} {mv jp sd : Int32} (ht : isTp w) (hsc : isSc w) (hb : isBd w 34 f n mv jp) (hmv : mv = 0 ∨ mv = 1) : Cl Γ yX6_worthBehind XX6_worthBehind 8 0 0 [.ref 13, .int (nI 0), .int sd] w (rP (wB 0 f n mv jp sd) (fun w1 => Fr w w1 (fun q => 16 ≤ q ∧ q < 43) ∧ isSc w1)) := by
  refine Cl.of (ls := [some (.ref 13), some (.int (nI 0)), some (.int sd), none, none, none, none, none, none]) rfl (by decide +kernel) (fun h => by cases h) (Nat.le_of_ble_eq_true rfl) rfl ?_
  have ry := ht.2.1
  obtain ⟨l0, hh⟩ := hsc.2.1
  have hh0 := hh.o
  refine r_aload_n 1 dX6_worthBehind_0 rfl rfl rfl ?_
  refine r_ifnonnull 6 dX6_worthBehind_1 (by decide) ?_
  refine r_aload_n 7 dX6_worthBehind_6 rfl rfl rfl ?_
  refine r_getf 10 dX6_worthBehind_7 rfl f_X6_204 (by repeat (first | assumption | exact isBd.o (by assumption) | exact isHp.o (by assumption) | exact isGm.o (by assumption) | exact isPd.o (by assumption) | refine gs_eq ?_ | refine gs_ne (by omega) ?_ | exact is_of (by assumption) | refine gs_is ?_)) rfl ?_
  refine r_astore_n (ls1 := [_, _, _, _, _, _, _, _, _]) 11 dX6_worthBehind_10 rfl (by decide) rfl rfl rfl ?_
  refine r_aload_n 12 dX6_worthBehind_11 rfl rfl rfl ?_
  refine r_iload_n 13 dX6_worthBehind_12 rfl rfl ?_
  refine r_callV0 16 dX6_worthBehind_13 rfl (tX0_worthOf hb) l_X6_185 mX0_worthOf rfl (by repeat (first | assumption | exact isBd.o (by assumption) | exact isHp.o (by assumption) | exact isGm.o (by assumption) | exact isPd.o (by assumption) | refine gs_eq ?_ | refine gs_ne (by omega) ?_ | exact is_of (by assumption) | refine gs_is ?_)) rfl (by decide) (Nat.le_of_ble_eq_true rfl) (by decide) (qI ?_)
  refine r_aload_n 17 dX6_worthBehind_16 rfl rfl rfl ?_
  refine r_iconst (v := 1) 18 dX6_worthBehind_17 rfl (by decide) ?_
  refine r_iload_n 19 dX6_worthBehind_18 rfl rfl ?_
  refine r_isub 20 dX6_worthBehind_19 rfl ?_
  refine r_callV0 23 dX6_worthBehind_20 rfl (tX0_worthOf hb) l_X6_185 mX0_worthOf rfl (by repeat (first | assumption | exact isBd.o (by assumption) | exact isHp.o (by assumption) | exact isGm.o (by assumption) | exact isPd.o (by assumption) | refine gs_eq ?_ | refine gs_ne (by omega) ?_ | exact is_of (by assumption) | refine gs_is ?_)) rfl (by decide) (Nat.le_of_ble_eq_true rfl) (by decide) (qI ?_)
  refine r_isub 24 dX6_worthBehind_23 rfl ?_
  refine r_istore (ls1 := [_, _, _, _, _, _, _, _, _]) 26 dX6_worthBehind_24 rfl (by decide) rfl rfl ?_
  refine r_iload_n 27 dX6_worthBehind_26 rfl rfl ?_
  refine r_if_gt 33 30 dX6_worthBehind_27 (by decide) rfl (fun q27 => absurd q27 (by decide)) (fun q27 => ?_)
  refine r_iload 32 dX6_worthBehind_30 rfl rfl ?_
  refine r_iret dX6_worthBehind_32 rfl (by decide) (by decide) ?_
  exact ⟨rfl, Fr.rf, hsc⟩

set_option maxRecDepth 100000 in
theorem tWorth11 {Γ : CT} {w : PW} {f n : Nat → Int32} {mv jp sd : Int32} (ht : isTp w) (hsc : isSc w) (hb : isBd w 25 f n mv jp) (hmv : mv = 0 ∨ mv = 1) : Cl Γ yX6_worthBehind XX6_worthBehind 6 0 0 [.ref 14, .int (nI 1), .int sd] w (rP (wB 1 f n mv jp sd) (fun w1 => Fr w w1 (fun q => 16 ≤ q ∧ q < 34) ∧ isSc w1)) := by
  have ry := ht.2.2.1
  obtain ⟨l0, hh⟩ := hsc.2.2.2.1
  have hh0 := hh.o
  have loop : ∀ (wn : Int32) (own : Bool) (m i : Nat) (u : PW) (best : Int32) (x8 : Option Value), i + m = (hopsC f mv jp).length → (Fr w u (fun q => 16 ≤ q ∧ q < 34)) → (isTp u) → (isSc u) → (isBd u 25 f n mv jp) → (isHp u 28 (hopsC f mv jp)) → (nl x8 = true) → (bsO own (fun q => wB 0 (mkF f mv q) (mkN f n mv q) (mkM f mv q) (mkJ f mv q) sd) ((hopsC f mv jp).drop i) (decide (i = 0)) best = wB 1 f n mv jp sd) → Rn Γ XX6_worthBehind (rmO 6 0 0) none (FinM (rP (wB 1 f n mv jp sd) (fun w1 => Fr w w1 (fun q => 16 ≤ q ∧ q < 34) ∧ isSc w1)) 0 0) 0 0 u 91 [some (.ref 14), some (.int (nI 1)), some (.int sd), some (.ref 25), some (.int wn), some (.int (bI own)), some (.int best), some (.int (nI i)), x8] [] := by
    intro wn own m
    induction m with
    | zero =>
      intro i u best x8 hi hF hut hus hub huh e8 hR
      have h9 : i = (hopsC f mv jp).length := by omega
      subst h9
      have ry0 := hut.2.2.1
      have huh0 := huh.o
      have hl9 := huh.1
      rw [List.drop_length] at hR
      refine r_iload 93 dX6_worthBehind_91 rfl rfl ?_
      refine r_aload_n 94 dX6_worthBehind_93 rfl rfl rfl ?_
      refine r_getf 97 dX6_worthBehind_94 rfl f_X6_236 (by repeat (first | assumption | exact isBd.o (by assumption) | exact isHp.o (by assumption) | exact isGm.o (by assumption) | exact isPd.o (by assumption) | refine gs_eq ?_ | refine gs_ne (by omega) ?_ | exact is_of (by assumption) | refine gs_is ?_)) rfl ?_
      refine r_getf 100 dX6_worthBehind_97 rfl f_X6_188.r (by repeat (first | assumption | exact isBd.o (by assumption) | exact isHp.o (by assumption) | exact isGm.o (by assumption) | exact isPd.o (by assumption) | refine gs_eq ?_ | refine gs_ne (by omega) ?_ | exact is_of (by assumption) | refine gs_is ?_)) rfl ?_
      refine r_icmp_ge 159 103 dX6_worthBehind_100 (by decide) rfl (fun q100 => ?_) (fun q100 => absurd q100 (fun z => z (nI_le (by omega) (by omega))))
      refine r_iload 161 dX6_worthBehind_159 rfl rfl ?_
      refine r_iret dX6_worthBehind_161 rfl (by decide) (by decide) ?_
      exact ⟨by rw [← hR]; rfl, hF, hus⟩
    | succ m ih =>
      intro i u best x8 hi hF hut hus hub huh e8 hR
      have ry0 := hut.2.2.1
      have huh0 := huh.o
      have hl9 := huh.1
      obtain ⟨q, hq, hdr⟩ := drop_c (l := hopsC f mv jp) (i := i) (by omega)
      rw [hdr, bsO] at hR
      have hPH := hopsC_PH (List.mem_of_getElem? hq)
      have hto : q.2.1 < 48 := by rw [hPH.2.2.2.2.1]; exact nk_lt hPH.1
      obtain ⟨f2, n2, v2, p2, hnb⟩ := hus.2.2.2.2.1
      refine r_iload 93 dX6_worthBehind_91 rfl rfl ?_
      refine r_aload_n 94 dX6_worthBehind_93 rfl rfl rfl ?_
      refine r_getf 97 dX6_worthBehind_94 rfl f_X6_236 (by repeat (first | assumption | exact isBd.o (by assumption) | exact isHp.o (by assumption) | exact isGm.o (by assumption) | exact isPd.o (by assumption) | refine gs_eq ?_ | refine gs_ne (by omega) ?_ | exact is_of (by assumption) | refine gs_is ?_)) rfl ?_
      refine r_getf 100 dX6_worthBehind_97 rfl f_X6_188.r (by repeat (first | assumption | exact isBd.o (by assumption) | exact isHp.o (by assumption) | exact isGm.o (by assumption) | exact isPd.o (by assumption) | refine gs_eq ?_ | refine gs_ne (by omega) ?_ | exact is_of (by assumption) | refine gs_is ?_)) rfl ?_
      refine r_icmp_ge 159 103 dX6_worthBehind_100 (by decide) rfl (fun q100 => absurd q100 (nI_ge (by omega) (by omega))) (fun q100 => ?_)
      refine r_aload_n 104 dX6_worthBehind_103 rfl rfl rfl ?_
      refine r_iload 106 dX6_worthBehind_104 rfl rfl ?_
      refine r_callV0 109 dX6_worthBehind_106 rfl (tX5_tryHop (y1 := 15) (nb := 16) (nh := 19) ry0 hut.2.2.2 hub huh hnb hq hto hPH.1 (by decide) (by unfold apH; decide) (by decide) (by decide)) l_X6_216 mX5_tryHop rfl (by repeat (first | assumption | exact isBd.o (by assumption) | exact isHp.o (by assumption) | exact isGm.o (by assumption) | exact isPd.o (by assumption) | refine gs_eq ?_ | refine gs_ne (by omega) ?_ | exact is_of (by assumption) | refine gs_is ?_)) rfl (by decide) (Nat.le_of_ble_eq_true rfl) (by decide) (qN fun w1 h1 => ?_)
      have hA1 : ∀ q, (q < 16 ∨ 19 ≤ q) → w1[q]? = u[q]? := fun q a => h1.1.2 q (by unfold bS; omega)
      have hut1 := hut.fr (fun q a => hA1 q (by omega))
      have hus1 : isSc w1 := hus.of (pb := 16) (ph := 19) (by decide) ⟨_, _, _, _, h1.2⟩ (xHp.ag hus.2.2.2.2.2 (fun q a b => hA1 q (by omega))) (fun q a b c => hA1 q (by omega))
      have ry1 := (hA1 14 (by decide)).trans ry0
      refine r_aload_n 110 dX6_worthBehind_109 rfl rfl rfl ?_
      refine r_getf 113 dX6_worthBehind_110 rfl f_X6_220 (by repeat (first | assumption | exact isBd.o (by assumption) | exact isHp.o (by assumption) | exact isGm.o (by assumption) | exact isPd.o (by assumption) | refine gs_eq ?_ | refine gs_ne (by omega) ?_ | exact is_of (by assumption) | refine gs_is ?_)) rfl ?_
      refine r_iload_n 114 dX6_worthBehind_113 rfl rfl ?_
      refine r_iconst (v := nI 1) 115 dX6_worthBehind_114 rfl (by decide) ?_
      refine r_isub 116 dX6_worthBehind_115 rfl ?_
      refine r_iload_n 117 dX6_worthBehind_116 rfl rfl ?_
      rw [pk_sub (a := 1) (b := 1) (by decide)]
      refine r_callS0 120 dX6_worthBehind_117 rfl (tWorth20 hut1 hus1 h1.2 (mkM_01 hmv)) l_X6_213 mX6_worthBehind rfl (by decide) (Nat.le_of_ble_eq_true rfl) (by decide) (qP fun w2 h2 => ?_)
      have hA2 : ∀ q, (q < 16 ∨ 25 ≤ q) → w2[q]? = w1[q]? := fun q a => h2.1.2 q (by omega)
      have hut2 := hut1.fr (fun q a => hA2 q (by omega))
      have hFF := (hF.tr (h1.1.mono (fun q a => ⟨by have := a.1; omega, by have := a.2; omega⟩))).tr (h2.1.mono (fun q a => ⟨a.1, by have := a.2; omega⟩))
      have hub2 := hub.ag (fun q a b => (hA2 q (by omega)).trans (hA1 q (by omega)))
      have huh2 := huh.ag (fun q a b => (hA2 q (by omega)).trans (hA1 q (by omega)))
      have hi1 : decide (i + 1 = 0) = false := decide_eq_false (by omega)
      refine r_istore (ls1 := [_, _, _, _, _, _, _, _, _]) 122 dX6_worthBehind_120 rfl (by decide) rfl rfl ?_
      refine r_iload 124 dX6_worthBehind_122 rfl rfl ?_
      refine r_if_eq 149 127 dX6_worthBehind_124 (by decide) rfl (fun q124 => ?_) (fun q124 => ?_)
      · refine r_iload 151 dX6_worthBehind_149 rfl rfl ?_
        refine r_istore (ls1 := [_, _, _, _, _, _, _, _, _]) 153 dX6_worthBehind_151 rfl (by decide) rfl rfl ?_
        refine r_iinc (ls1 := [_, _, _, _, _, _, _, _, _]) 156 dX6_worthBehind_153 rfl (by decide) rfl rfl (nI_1 i) rfl ?_
        refine r_goto 91 dX6_worthBehind_156 (by decide) ?_
        first
          | exact ih (i + 1) w2 _ _ (by omega) hFF hut2 h2.2 hub2 huh2 rfl (by rw [hi1, ← hR, if_pos (Or.inl (decide_eq_true (nI_z (by omega) q124)))])
          | exact ih (i + 1) w2 _ _ (by omega) hFF hut2 h2.2 hub2 huh2 rfl (by rw [hi1, ← hR, if_pos (Or.inr (by rw [if_pos (ne_f q129)]; exact Int32.not_le.mp q136))])
          | exact ih (i + 1) w2 _ _ (by omega) hFF hut2 h2.2 hub2 huh2 rfl (by rw [hi1, ← hR, if_neg (fun z => z.elim (fun a => q124 (by rw [of_decide_eq_true a]; rfl)) (fun a => by rw [if_pos (ne_f q129)] at a; exact Int32.not_lt.mpr q136 a))])
          | exact ih (i + 1) w2 _ _ (by omega) hFF hut2 h2.2 hub2 huh2 rfl (by rw [hi1, ← hR, if_pos (Or.inr (by rw [if_neg (eq_f q129)]; exact Int32.not_le.mp q146))])
          | exact ih (i + 1) w2 _ _ (by omega) hFF hut2 h2.2 hub2 huh2 rfl (by rw [hi1, ← hR, if_neg (fun z => z.elim (fun a => q124 (by rw [of_decide_eq_true a]; rfl)) (fun a => by rw [if_neg (eq_f q129)] at a; exact Int32.not_lt.mpr q146 a))])
      · refine r_iload 129 dX6_worthBehind_127 rfl rfl ?_
        refine r_if_eq 142 132 dX6_worthBehind_129 (by decide) rfl (fun q129 => ?_) (fun q129 => ?_)
        · refine r_iload 144 dX6_worthBehind_142 rfl rfl ?_
          refine r_iload 146 dX6_worthBehind_144 rfl rfl ?_
          refine r_icmp_ge 153 149 dX6_worthBehind_146 (by decide) rfl (fun q146 => ?_) (fun q146 => ?_)
          · refine r_iinc (ls1 := [_, _, _, _, _, _, _, _, _]) 156 dX6_worthBehind_153 rfl (by decide) rfl rfl (nI_1 i) rfl ?_
            refine r_goto 91 dX6_worthBehind_156 (by decide) ?_
            first
              | exact ih (i + 1) w2 _ _ (by omega) hFF hut2 h2.2 hub2 huh2 rfl (by rw [hi1, ← hR, if_pos (Or.inl (decide_eq_true (nI_z (by omega) q124)))])
              | exact ih (i + 1) w2 _ _ (by omega) hFF hut2 h2.2 hub2 huh2 rfl (by rw [hi1, ← hR, if_pos (Or.inr (by rw [if_pos (ne_f q129)]; exact Int32.not_le.mp q136))])
              | exact ih (i + 1) w2 _ _ (by omega) hFF hut2 h2.2 hub2 huh2 rfl (by rw [hi1, ← hR, if_neg (fun z => z.elim (fun a => q124 (by rw [of_decide_eq_true a]; rfl)) (fun a => by rw [if_pos (ne_f q129)] at a; exact Int32.not_lt.mpr q136 a))])
              | exact ih (i + 1) w2 _ _ (by omega) hFF hut2 h2.2 hub2 huh2 rfl (by rw [hi1, ← hR, if_pos (Or.inr (by rw [if_neg (eq_f q129)]; exact Int32.not_le.mp q146))])
              | exact ih (i + 1) w2 _ _ (by omega) hFF hut2 h2.2 hub2 huh2 rfl (by rw [hi1, ← hR, if_neg (fun z => z.elim (fun a => q124 (by rw [of_decide_eq_true a]; rfl)) (fun a => by rw [if_neg (eq_f q129)] at a; exact Int32.not_lt.mpr q146 a))])
          · refine r_iload 151 dX6_worthBehind_149 rfl rfl ?_
            refine r_istore (ls1 := [_, _, _, _, _, _, _, _, _]) 153 dX6_worthBehind_151 rfl (by decide) rfl rfl ?_
            refine r_iinc (ls1 := [_, _, _, _, _, _, _, _, _]) 156 dX6_worthBehind_153 rfl (by decide) rfl rfl (nI_1 i) rfl ?_
            refine r_goto 91 dX6_worthBehind_156 (by decide) ?_
            first
              | exact ih (i + 1) w2 _ _ (by omega) hFF hut2 h2.2 hub2 huh2 rfl (by rw [hi1, ← hR, if_pos (Or.inl (decide_eq_true (nI_z (by omega) q124)))])
              | exact ih (i + 1) w2 _ _ (by omega) hFF hut2 h2.2 hub2 huh2 rfl (by rw [hi1, ← hR, if_pos (Or.inr (by rw [if_pos (ne_f q129)]; exact Int32.not_le.mp q136))])
              | exact ih (i + 1) w2 _ _ (by omega) hFF hut2 h2.2 hub2 huh2 rfl (by rw [hi1, ← hR, if_neg (fun z => z.elim (fun a => q124 (by rw [of_decide_eq_true a]; rfl)) (fun a => by rw [if_pos (ne_f q129)] at a; exact Int32.not_lt.mpr q136 a))])
              | exact ih (i + 1) w2 _ _ (by omega) hFF hut2 h2.2 hub2 huh2 rfl (by rw [hi1, ← hR, if_pos (Or.inr (by rw [if_neg (eq_f q129)]; exact Int32.not_le.mp q146))])
              | exact ih (i + 1) w2 _ _ (by omega) hFF hut2 h2.2 hub2 huh2 rfl (by rw [hi1, ← hR, if_neg (fun z => z.elim (fun a => q124 (by rw [of_decide_eq_true a]; rfl)) (fun a => by rw [if_neg (eq_f q129)] at a; exact Int32.not_lt.mpr q146 a))])
        · refine r_iload 134 dX6_worthBehind_132 rfl rfl ?_
          refine r_iload 136 dX6_worthBehind_134 rfl rfl ?_
          refine r_icmp_le 153 139 dX6_worthBehind_136 (by decide) rfl (fun q136 => ?_) (fun q136 => ?_)
          · refine r_iinc (ls1 := [_, _, _, _, _, _, _, _, _]) 156 dX6_worthBehind_153 rfl (by decide) rfl rfl (nI_1 i) rfl ?_
            refine r_goto 91 dX6_worthBehind_156 (by decide) ?_
            first
              | exact ih (i + 1) w2 _ _ (by omega) hFF hut2 h2.2 hub2 huh2 rfl (by rw [hi1, ← hR, if_pos (Or.inl (decide_eq_true (nI_z (by omega) q124)))])
              | exact ih (i + 1) w2 _ _ (by omega) hFF hut2 h2.2 hub2 huh2 rfl (by rw [hi1, ← hR, if_pos (Or.inr (by rw [if_pos (ne_f q129)]; exact Int32.not_le.mp q136))])
              | exact ih (i + 1) w2 _ _ (by omega) hFF hut2 h2.2 hub2 huh2 rfl (by rw [hi1, ← hR, if_neg (fun z => z.elim (fun a => q124 (by rw [of_decide_eq_true a]; rfl)) (fun a => by rw [if_pos (ne_f q129)] at a; exact Int32.not_lt.mpr q136 a))])
              | exact ih (i + 1) w2 _ _ (by omega) hFF hut2 h2.2 hub2 huh2 rfl (by rw [hi1, ← hR, if_pos (Or.inr (by rw [if_neg (eq_f q129)]; exact Int32.not_le.mp q146))])
              | exact ih (i + 1) w2 _ _ (by omega) hFF hut2 h2.2 hub2 huh2 rfl (by rw [hi1, ← hR, if_neg (fun z => z.elim (fun a => q124 (by rw [of_decide_eq_true a]; rfl)) (fun a => by rw [if_neg (eq_f q129)] at a; exact Int32.not_lt.mpr q146 a))])
          · refine r_goto 149 dX6_worthBehind_139 (by decide) ?_
            refine r_iload 151 dX6_worthBehind_149 rfl rfl ?_
            refine r_istore (ls1 := [_, _, _, _, _, _, _, _, _]) 153 dX6_worthBehind_151 rfl (by decide) rfl rfl ?_
            refine r_iinc (ls1 := [_, _, _, _, _, _, _, _, _]) 156 dX6_worthBehind_153 rfl (by decide) rfl rfl (nI_1 i) rfl ?_
            refine r_goto 91 dX6_worthBehind_156 (by decide) ?_
            first
              | exact ih (i + 1) w2 _ _ (by omega) hFF hut2 h2.2 hub2 huh2 rfl (by rw [hi1, ← hR, if_pos (Or.inl (decide_eq_true (nI_z (by omega) q124)))])
              | exact ih (i + 1) w2 _ _ (by omega) hFF hut2 h2.2 hub2 huh2 rfl (by rw [hi1, ← hR, if_pos (Or.inr (by rw [if_pos (ne_f q129)]; exact Int32.not_le.mp q136))])
              | exact ih (i + 1) w2 _ _ (by omega) hFF hut2 h2.2 hub2 huh2 rfl (by rw [hi1, ← hR, if_neg (fun z => z.elim (fun a => q124 (by rw [of_decide_eq_true a]; rfl)) (fun a => by rw [if_pos (ne_f q129)] at a; exact Int32.not_lt.mpr q136 a))])
              | exact ih (i + 1) w2 _ _ (by omega) hFF hut2 h2.2 hub2 huh2 rfl (by rw [hi1, ← hR, if_pos (Or.inr (by rw [if_neg (eq_f q129)]; exact Int32.not_le.mp q146))])
              | exact ih (i + 1) w2 _ _ (by omega) hFF hut2 h2.2 hub2 huh2 rfl (by rw [hi1, ← hR, if_neg (fun z => z.elim (fun a => q124 (by rw [of_decide_eq_true a]; rfl)) (fun a => by rw [if_neg (eq_f q129)] at a; exact Int32.not_lt.mpr q146 a))])
  refine Cl.of (ls := [some (.ref 14), some (.int (nI 1)), some (.int sd), none, none, none, none, none, none]) rfl (by decide +kernel) (fun h => by cases h) (Nat.le_of_ble_eq_true rfl) rfl ?_
  refine r_aload_n 1 dX6_worthBehind_0 rfl rfl rfl ?_
  refine r_ifnonnull 6 dX6_worthBehind_1 (by decide) ?_
  refine r_aload_n 7 dX6_worthBehind_6 rfl rfl rfl ?_
  refine r_getf 10 dX6_worthBehind_7 rfl f_X6_204 (by repeat (first | assumption | exact isBd.o (by assumption) | exact isHp.o (by assumption) | exact isGm.o (by assumption) | exact isPd.o (by assumption) | refine gs_eq ?_ | refine gs_ne (by omega) ?_ | exact is_of (by assumption) | refine gs_is ?_)) rfl ?_
  refine r_astore_n (ls1 := [_, _, _, _, _, _, _, _, _]) 11 dX6_worthBehind_10 rfl (by decide) rfl rfl rfl ?_
  refine r_aload_n 12 dX6_worthBehind_11 rfl rfl rfl ?_
  refine r_iload_n 13 dX6_worthBehind_12 rfl rfl ?_
  refine r_callV0 16 dX6_worthBehind_13 rfl (tX0_worthOf hb) l_X6_185 mX0_worthOf rfl (by repeat (first | assumption | exact isBd.o (by assumption) | exact isHp.o (by assumption) | exact isGm.o (by assumption) | exact isPd.o (by assumption) | refine gs_eq ?_ | refine gs_ne (by omega) ?_ | exact is_of (by assumption) | refine gs_is ?_)) rfl (by decide) (Nat.le_of_ble_eq_true rfl) (by decide) (qI ?_)
  refine r_aload_n 17 dX6_worthBehind_16 rfl rfl rfl ?_
  refine r_iconst (v := 1) 18 dX6_worthBehind_17 rfl (by decide) ?_
  refine r_iload_n 19 dX6_worthBehind_18 rfl rfl ?_
  refine r_isub 20 dX6_worthBehind_19 rfl ?_
  refine r_callV0 23 dX6_worthBehind_20 rfl (tX0_worthOf hb) l_X6_185 mX0_worthOf rfl (by repeat (first | assumption | exact isBd.o (by assumption) | exact isHp.o (by assumption) | exact isGm.o (by assumption) | exact isPd.o (by assumption) | refine gs_eq ?_ | refine gs_ne (by omega) ?_ | exact is_of (by assumption) | refine gs_is ?_)) rfl (by decide) (Nat.le_of_ble_eq_true rfl) (by decide) (qI ?_)
  refine r_isub 24 dX6_worthBehind_23 rfl ?_
  refine r_istore (ls1 := [_, _, _, _, _, _, _, _, _]) 26 dX6_worthBehind_24 rfl (by decide) rfl rfl ?_
  refine r_iload_n 27 dX6_worthBehind_26 rfl rfl ?_
  refine r_if_gt 33 30 dX6_worthBehind_27 (by decide) rfl (fun q27 => ?_) (fun q27 => absurd q27 (by decide))
  refine r_aload_n 34 dX6_worthBehind_33 rfl rfl rfl ?_
  refine r_getf 37 dX6_worthBehind_34 rfl f_X6_89.r (by repeat (first | assumption | exact isBd.o (by assumption) | exact isHp.o (by assumption) | exact isGm.o (by assumption) | exact isPd.o (by assumption) | refine gs_eq ?_ | refine gs_ne (by omega) ?_ | exact is_of (by assumption) | refine gs_is ?_)) rfl ?_
  refine r_iload_n 38 dX6_worthBehind_37 rfl rfl ?_
  refine r_icmp_ne 45 41 dX6_worthBehind_38 (by decide) rfl (fun q38 => ?_) (fun q38 => ?_)
  · refine r_iconst (v := 0) 46 dX6_worthBehind_45 rfl (by decide) ?_
    refine r_istore (ls1 := [_, _, _, _, _, _, _, _, _]) 48 dX6_worthBehind_46 rfl (by decide) rfl rfl ?_
    refine r_aload_n 49 dX6_worthBehind_48 rfl rfl rfl ?_
    refine r_getf 52 dX6_worthBehind_49 rfl f_X6_236 (by repeat (first | assumption | exact isBd.o (by assumption) | exact isHp.o (by assumption) | exact isGm.o (by assumption) | exact isPd.o (by assumption) | refine gs_eq ?_ | refine gs_ne (by omega) ?_ | exact is_of (by assumption) | refine gs_is ?_)) rfl ?_
    refine r_aload_n 53 dX6_worthBehind_52 rfl rfl rfl ?_
    refine r_callV0 56 dX6_worthBehind_53 rfl (tX3_list hb hh (by unfold apH; decide) (lenJ hmv) (lenM hmv)) l_X6_240 mX3_list rfl (by repeat (first | assumption | exact isBd.o (by assumption) | exact isHp.o (by assumption) | exact isGm.o (by assumption) | exact isPd.o (by assumption) | refine gs_eq ?_ | refine gs_ne (by omega) ?_ | exact is_of (by assumption) | refine gs_is ?_)) rfl (by decide) (Nat.le_of_ble_eq_true rfl) (by decide) (qN fun w1 h1 => ?_)
    have hF1 : Fr w w1 (fun q => 16 ≤ q ∧ q < 34) := h1.1.mono (fun q a => ⟨by have := a.1; omega, by have := a.2; omega⟩)
    have hA1 : ∀ q, (q < 28 ∨ 34 ≤ q) → w1[q]? = w[q]? := fun q a => h1.1.2 q (by unfold hS; omega)
    have ht1 := ht.fr (fun q a => hA1 q (by omega))
    have hb1 := hb.ag (fun q a b => hA1 q (by omega))
    have hs1 : isSc w1 := hsc.of (pb := 25) (ph := 28) (by decide) ⟨_, _, _, _, hb1⟩ ⟨_, h1.2⟩ (fun q a b c => hA1 q (by omega))
    have ry1 := (hA1 14 (by decide)).trans ry
    have hh10 := h1.2.o
    have hlen := h1.2.1
    refine r_aload_n 57 dX6_worthBehind_56 rfl rfl rfl ?_
    refine r_getf 60 dX6_worthBehind_57 rfl f_X6_236 (by repeat (first | assumption | exact isBd.o (by assumption) | exact isHp.o (by assumption) | exact isGm.o (by assumption) | exact isPd.o (by assumption) | refine gs_eq ?_ | refine gs_ne (by omega) ?_ | exact is_of (by assumption) | refine gs_is ?_)) rfl ?_
    refine r_getf 63 dX6_worthBehind_60 rfl f_X6_188.r (by repeat (first | assumption | exact isBd.o (by assumption) | exact isHp.o (by assumption) | exact isGm.o (by assumption) | exact isPd.o (by assumption) | refine gs_eq ?_ | refine gs_ne (by omega) ?_ | exact is_of (by assumption) | refine gs_is ?_)) rfl ?_
    refine r_if_ne 85 66 dX6_worthBehind_63 (by decide) rfl (fun q63 => ?_) (fun q63 => ?_)
    · refine r_iconst (v := 0) 86 dX6_worthBehind_85 rfl (by decide) ?_
      refine r_istore (ls1 := [_, _, _, _, _, _, _, _, _]) 88 dX6_worthBehind_86 rfl (by decide) rfl rfl ?_
      refine r_iconst (v := nI 0) 89 dX6_worthBehind_88 rfl (by decide) ?_
      refine r_istore (ls1 := [_, _, _, _, _, _, _, _, _]) 91 dX6_worthBehind_89 rfl (by decide) rfl rfl ?_
      have hz : ¬ (hopsC f mv jp).length = 0 := fun z => q63 (by rw [z]; rfl)
      first
        | exact loop (wnO n sd) true (hopsC f mv jp).length 0 w1 0 _ (by omega) hF1 ht1 hs1 hb1 h1.2 rfl (by rw [wB, if_neg hz, decide_eq_true q38]; rfl)
        | exact loop (wnO n sd) false (hopsC f mv jp).length 0 w1 0 _ (by omega) hF1 ht1 hs1 hb1 h1.2 rfl (by rw [wB, if_neg hz, decide_eq_false q38]; rfl)
    · refine r_iload 68 dX6_worthBehind_66 rfl rfl ?_
      refine r_if_eq 79 71 dX6_worthBehind_68 (by decide) rfl (fun q68 => ?_) (fun q68 => absurd q68 (by decide))
      refine r_iload 81 dX6_worthBehind_79 rfl rfl ?_
      refine r_bipush (v := 100) 83 dX6_worthBehind_81 rfl (by decide) ?_
      refine r_iadd 84 dX6_worthBehind_83 rfl ?_
      refine r_iret dX6_worthBehind_84 rfl (by decide) (by decide) ?_
      have hz : (hopsC f mv jp).length = 0 := nI_z (by omega) q63
      first
        | exact ⟨by rw [wB, if_pos hz, if_pos q38]; rfl, hF1, hs1⟩
        | exact ⟨by rw [wB, if_pos hz, if_neg q38]; rfl, hF1, hs1⟩
  · refine r_iconst (v := 1) 42 dX6_worthBehind_41 rfl (by decide) ?_
    refine r_goto 46 dX6_worthBehind_42 (by decide) ?_
    refine r_istore (ls1 := [_, _, _, _, _, _, _, _, _]) 48 dX6_worthBehind_46 rfl (by decide) rfl rfl ?_
    refine r_aload_n 49 dX6_worthBehind_48 rfl rfl rfl ?_
    refine r_getf 52 dX6_worthBehind_49 rfl f_X6_236 (by repeat (first | assumption | exact isBd.o (by assumption) | exact isHp.o (by assumption) | exact isGm.o (by assumption) | exact isPd.o (by assumption) | refine gs_eq ?_ | refine gs_ne (by omega) ?_ | exact is_of (by assumption) | refine gs_is ?_)) rfl ?_
    refine r_aload_n 53 dX6_worthBehind_52 rfl rfl rfl ?_
    refine r_callV0 56 dX6_worthBehind_53 rfl (tX3_list hb hh (by unfold apH; decide) (lenJ hmv) (lenM hmv)) l_X6_240 mX3_list rfl (by repeat (first | assumption | exact isBd.o (by assumption) | exact isHp.o (by assumption) | exact isGm.o (by assumption) | exact isPd.o (by assumption) | refine gs_eq ?_ | refine gs_ne (by omega) ?_ | exact is_of (by assumption) | refine gs_is ?_)) rfl (by decide) (Nat.le_of_ble_eq_true rfl) (by decide) (qN fun w1 h1 => ?_)
    have hF1 : Fr w w1 (fun q => 16 ≤ q ∧ q < 34) := h1.1.mono (fun q a => ⟨by have := a.1; omega, by have := a.2; omega⟩)
    have hA1 : ∀ q, (q < 28 ∨ 34 ≤ q) → w1[q]? = w[q]? := fun q a => h1.1.2 q (by unfold hS; omega)
    have ht1 := ht.fr (fun q a => hA1 q (by omega))
    have hb1 := hb.ag (fun q a b => hA1 q (by omega))
    have hs1 : isSc w1 := hsc.of (pb := 25) (ph := 28) (by decide) ⟨_, _, _, _, hb1⟩ ⟨_, h1.2⟩ (fun q a b c => hA1 q (by omega))
    have ry1 := (hA1 14 (by decide)).trans ry
    have hh10 := h1.2.o
    have hlen := h1.2.1
    refine r_aload_n 57 dX6_worthBehind_56 rfl rfl rfl ?_
    refine r_getf 60 dX6_worthBehind_57 rfl f_X6_236 (by repeat (first | assumption | exact isBd.o (by assumption) | exact isHp.o (by assumption) | exact isGm.o (by assumption) | exact isPd.o (by assumption) | refine gs_eq ?_ | refine gs_ne (by omega) ?_ | exact is_of (by assumption) | refine gs_is ?_)) rfl ?_
    refine r_getf 63 dX6_worthBehind_60 rfl f_X6_188.r (by repeat (first | assumption | exact isBd.o (by assumption) | exact isHp.o (by assumption) | exact isGm.o (by assumption) | exact isPd.o (by assumption) | refine gs_eq ?_ | refine gs_ne (by omega) ?_ | exact is_of (by assumption) | refine gs_is ?_)) rfl ?_
    refine r_if_ne 85 66 dX6_worthBehind_63 (by decide) rfl (fun q63 => ?_) (fun q63 => ?_)
    · refine r_iconst (v := 0) 86 dX6_worthBehind_85 rfl (by decide) ?_
      refine r_istore (ls1 := [_, _, _, _, _, _, _, _, _]) 88 dX6_worthBehind_86 rfl (by decide) rfl rfl ?_
      refine r_iconst (v := nI 0) 89 dX6_worthBehind_88 rfl (by decide) ?_
      refine r_istore (ls1 := [_, _, _, _, _, _, _, _, _]) 91 dX6_worthBehind_89 rfl (by decide) rfl rfl ?_
      have hz : ¬ (hopsC f mv jp).length = 0 := fun z => q63 (by rw [z]; rfl)
      first
        | exact loop (wnO n sd) true (hopsC f mv jp).length 0 w1 0 _ (by omega) hF1 ht1 hs1 hb1 h1.2 rfl (by rw [wB, if_neg hz, decide_eq_true q38]; rfl)
        | exact loop (wnO n sd) false (hopsC f mv jp).length 0 w1 0 _ (by omega) hF1 ht1 hs1 hb1 h1.2 rfl (by rw [wB, if_neg hz, decide_eq_false q38]; rfl)
    · refine r_iload 68 dX6_worthBehind_66 rfl rfl ?_
      refine r_if_eq 79 71 dX6_worthBehind_68 (by decide) rfl (fun q68 => absurd q68 (by decide)) (fun q68 => ?_)
      refine r_iload 73 dX6_worthBehind_71 rfl rfl ?_
      refine r_bipush (v := 100) 75 dX6_worthBehind_73 rfl (by decide) ?_
      refine r_isub 76 dX6_worthBehind_75 rfl ?_
      refine r_goto 84 dX6_worthBehind_76 (by decide) ?_
      refine r_iret dX6_worthBehind_84 rfl (by decide) (by decide) ?_
      have hz : (hopsC f mv jp).length = 0 := nI_z (by omega) q63
      first
        | exact ⟨by rw [wB, if_pos hz, if_pos q38]; rfl, hF1, hs1⟩
        | exact ⟨by rw [wB, if_pos hz, if_neg q38]; rfl, hF1, hs1⟩

set_option maxRecDepth 100000 in
theorem tWorth01 {Γ : CT} {w : PW} {f n : Nat → Int32} {mv jp sd : Int32} (ht : isTp w) (hsc : isSc w) (hb : isBd w 34 f n mv jp) (hmv : mv = 0 ∨ mv = 1) : Cl Γ yX6_worthBehind XX6_worthBehind 8 0 0 [.ref 13, .int (nI 1), .int sd] w (rP (wB 1 f n mv jp sd) (fun w1 => Fr w w1 (fun q => 16 ≤ q ∧ q < 43) ∧ isSc w1)) := by
  have ry := ht.2.1
  obtain ⟨l0, hh⟩ := hsc.2.1
  have hh0 := hh.o
  have loop : ∀ (wn : Int32) (own : Bool) (m i : Nat) (u : PW) (best : Int32) (x8 : Option Value), i + m = (hopsC f mv jp).length → (Fr w u (fun q => 16 ≤ q ∧ q < 43)) → (isTp u) → (isSc u) → (isBd u 34 f n mv jp) → (isHp u 37 (hopsC f mv jp)) → (nl x8 = true) → (bsO own (fun q => wB 0 (mkF f mv q) (mkN f n mv q) (mkM f mv q) (mkJ f mv q) sd) ((hopsC f mv jp).drop i) (decide (i = 0)) best = wB 1 f n mv jp sd) → Rn Γ XX6_worthBehind (rmO 8 0 0) none (FinM (rP (wB 1 f n mv jp sd) (fun w1 => Fr w w1 (fun q => 16 ≤ q ∧ q < 43) ∧ isSc w1)) 0 0) 0 0 u 91 [some (.ref 13), some (.int (nI 1)), some (.int sd), some (.ref 34), some (.int wn), some (.int (bI own)), some (.int best), some (.int (nI i)), x8] [] := by
    intro wn own m
    induction m with
    | zero =>
      intro i u best x8 hi hF hut hus hub huh e8 hR
      have h9 : i = (hopsC f mv jp).length := by omega
      subst h9
      have ry0 := hut.2.1
      have huh0 := huh.o
      have hl9 := huh.1
      rw [List.drop_length] at hR
      refine r_iload 93 dX6_worthBehind_91 rfl rfl ?_
      refine r_aload_n 94 dX6_worthBehind_93 rfl rfl rfl ?_
      refine r_getf 97 dX6_worthBehind_94 rfl f_X6_236 (by repeat (first | assumption | exact isBd.o (by assumption) | exact isHp.o (by assumption) | exact isGm.o (by assumption) | exact isPd.o (by assumption) | refine gs_eq ?_ | refine gs_ne (by omega) ?_ | exact is_of (by assumption) | refine gs_is ?_)) rfl ?_
      refine r_getf 100 dX6_worthBehind_97 rfl f_X6_188.r (by repeat (first | assumption | exact isBd.o (by assumption) | exact isHp.o (by assumption) | exact isGm.o (by assumption) | exact isPd.o (by assumption) | refine gs_eq ?_ | refine gs_ne (by omega) ?_ | exact is_of (by assumption) | refine gs_is ?_)) rfl ?_
      refine r_icmp_ge 159 103 dX6_worthBehind_100 (by decide) rfl (fun q100 => ?_) (fun q100 => absurd q100 (fun z => z (nI_le (by omega) (by omega))))
      refine r_iload 161 dX6_worthBehind_159 rfl rfl ?_
      refine r_iret dX6_worthBehind_161 rfl (by decide) (by decide) ?_
      exact ⟨by rw [← hR]; rfl, hF, hus⟩
    | succ m ih =>
      intro i u best x8 hi hF hut hus hub huh e8 hR
      have ry0 := hut.2.1
      have huh0 := huh.o
      have hl9 := huh.1
      obtain ⟨q, hq, hdr⟩ := drop_c (l := hopsC f mv jp) (i := i) (by omega)
      rw [hdr, bsO] at hR
      have hPH := hopsC_PH (List.mem_of_getElem? hq)
      have hto : q.2.1 < 48 := by rw [hPH.2.2.2.2.1]; exact nk_lt hPH.1
      obtain ⟨f2, n2, v2, p2, hnb⟩ := hus.2.2.1
      refine r_iload 93 dX6_worthBehind_91 rfl rfl ?_
      refine r_aload_n 94 dX6_worthBehind_93 rfl rfl rfl ?_
      refine r_getf 97 dX6_worthBehind_94 rfl f_X6_236 (by repeat (first | assumption | exact isBd.o (by assumption) | exact isHp.o (by assumption) | exact isGm.o (by assumption) | exact isPd.o (by assumption) | refine gs_eq ?_ | refine gs_ne (by omega) ?_ | exact is_of (by assumption) | refine gs_is ?_)) rfl ?_
      refine r_getf 100 dX6_worthBehind_97 rfl f_X6_188.r (by repeat (first | assumption | exact isBd.o (by assumption) | exact isHp.o (by assumption) | exact isGm.o (by assumption) | exact isPd.o (by assumption) | refine gs_eq ?_ | refine gs_ne (by omega) ?_ | exact is_of (by assumption) | refine gs_is ?_)) rfl ?_
      refine r_icmp_ge 159 103 dX6_worthBehind_100 (by decide) rfl (fun q100 => absurd q100 (nI_ge (by omega) (by omega))) (fun q100 => ?_)
      refine r_aload_n 104 dX6_worthBehind_103 rfl rfl rfl ?_
      refine r_iload 106 dX6_worthBehind_104 rfl rfl ?_
      refine r_callV0 109 dX6_worthBehind_106 rfl (tX5_tryHop (y1 := 14) (nb := 25) (nh := 28) ry0 hut.2.2.1 hub huh hnb hq hto hPH.1 (by decide) (by unfold apH; decide) (by decide) (by decide)) l_X6_216 mX5_tryHop rfl (by repeat (first | assumption | exact isBd.o (by assumption) | exact isHp.o (by assumption) | exact isGm.o (by assumption) | exact isPd.o (by assumption) | refine gs_eq ?_ | refine gs_ne (by omega) ?_ | exact is_of (by assumption) | refine gs_is ?_)) rfl (by decide) (Nat.le_of_ble_eq_true rfl) (by decide) (qN fun w1 h1 => ?_)
      have hA1 : ∀ q, (q < 25 ∨ 28 ≤ q) → w1[q]? = u[q]? := fun q a => h1.1.2 q (by unfold bS; omega)
      have hut1 := hut.fr (fun q a => hA1 q (by omega))
      have hus1 : isSc w1 := hus.of (pb := 25) (ph := 28) (by decide) ⟨_, _, _, _, h1.2⟩ (xHp.ag hus.2.2.2.1 (fun q a b => hA1 q (by omega))) (fun q a b c => hA1 q (by omega))
      have ry1 := (hA1 13 (by decide)).trans ry0
      refine r_aload_n 110 dX6_worthBehind_109 rfl rfl rfl ?_
      refine r_getf 113 dX6_worthBehind_110 rfl f_X6_220 (by repeat (first | assumption | exact isBd.o (by assumption) | exact isHp.o (by assumption) | exact isGm.o (by assumption) | exact isPd.o (by assumption) | refine gs_eq ?_ | refine gs_ne (by omega) ?_ | exact is_of (by assumption) | refine gs_is ?_)) rfl ?_
      refine r_iload_n 114 dX6_worthBehind_113 rfl rfl ?_
      refine r_iconst (v := nI 1) 115 dX6_worthBehind_114 rfl (by decide) ?_
      refine r_isub 116 dX6_worthBehind_115 rfl ?_
      refine r_iload_n 117 dX6_worthBehind_116 rfl rfl ?_
      rw [pk_sub (a := 1) (b := 1) (by decide)]
      refine r_callS0 120 dX6_worthBehind_117 rfl (tWorth10 hut1 hus1 h1.2 (mkM_01 hmv)) l_X6_213 mX6_worthBehind rfl (by decide) (Nat.le_of_ble_eq_true rfl) (by decide) (qP fun w2 h2 => ?_)
      have hA2 : ∀ q, (q < 16 ∨ 34 ≤ q) → w2[q]? = w1[q]? := fun q a => h2.1.2 q (by omega)
      have hut2 := hut1.fr (fun q a => hA2 q (by omega))
      have hFF := (hF.tr (h1.1.mono (fun q a => ⟨by have := a.1; omega, by have := a.2; omega⟩))).tr (h2.1.mono (fun q a => ⟨a.1, by have := a.2; omega⟩))
      have hub2 := hub.ag (fun q a b => (hA2 q (by omega)).trans (hA1 q (by omega)))
      have huh2 := huh.ag (fun q a b => (hA2 q (by omega)).trans (hA1 q (by omega)))
      have hi1 : decide (i + 1 = 0) = false := decide_eq_false (by omega)
      refine r_istore (ls1 := [_, _, _, _, _, _, _, _, _]) 122 dX6_worthBehind_120 rfl (by decide) rfl rfl ?_
      refine r_iload 124 dX6_worthBehind_122 rfl rfl ?_
      refine r_if_eq 149 127 dX6_worthBehind_124 (by decide) rfl (fun q124 => ?_) (fun q124 => ?_)
      · refine r_iload 151 dX6_worthBehind_149 rfl rfl ?_
        refine r_istore (ls1 := [_, _, _, _, _, _, _, _, _]) 153 dX6_worthBehind_151 rfl (by decide) rfl rfl ?_
        refine r_iinc (ls1 := [_, _, _, _, _, _, _, _, _]) 156 dX6_worthBehind_153 rfl (by decide) rfl rfl (nI_1 i) rfl ?_
        refine r_goto 91 dX6_worthBehind_156 (by decide) ?_
        first
          | exact ih (i + 1) w2 _ _ (by omega) hFF hut2 h2.2 hub2 huh2 rfl (by rw [hi1, ← hR, if_pos (Or.inl (decide_eq_true (nI_z (by omega) q124)))])
          | exact ih (i + 1) w2 _ _ (by omega) hFF hut2 h2.2 hub2 huh2 rfl (by rw [hi1, ← hR, if_pos (Or.inr (by rw [if_pos (ne_f q129)]; exact Int32.not_le.mp q136))])
          | exact ih (i + 1) w2 _ _ (by omega) hFF hut2 h2.2 hub2 huh2 rfl (by rw [hi1, ← hR, if_neg (fun z => z.elim (fun a => q124 (by rw [of_decide_eq_true a]; rfl)) (fun a => by rw [if_pos (ne_f q129)] at a; exact Int32.not_lt.mpr q136 a))])
          | exact ih (i + 1) w2 _ _ (by omega) hFF hut2 h2.2 hub2 huh2 rfl (by rw [hi1, ← hR, if_pos (Or.inr (by rw [if_neg (eq_f q129)]; exact Int32.not_le.mp q146))])
          | exact ih (i + 1) w2 _ _ (by omega) hFF hut2 h2.2 hub2 huh2 rfl (by rw [hi1, ← hR, if_neg (fun z => z.elim (fun a => q124 (by rw [of_decide_eq_true a]; rfl)) (fun a => by rw [if_neg (eq_f q129)] at a; exact Int32.not_lt.mpr q146 a))])
      · refine r_iload 129 dX6_worthBehind_127 rfl rfl ?_
        refine r_if_eq 142 132 dX6_worthBehind_129 (by decide) rfl (fun q129 => ?_) (fun q129 => ?_)
        · refine r_iload 144 dX6_worthBehind_142 rfl rfl ?_
          refine r_iload 146 dX6_worthBehind_144 rfl rfl ?_
          refine r_icmp_ge 153 149 dX6_worthBehind_146 (by decide) rfl (fun q146 => ?_) (fun q146 => ?_)
          · refine r_iinc (ls1 := [_, _, _, _, _, _, _, _, _]) 156 dX6_worthBehind_153 rfl (by decide) rfl rfl (nI_1 i) rfl ?_
            refine r_goto 91 dX6_worthBehind_156 (by decide) ?_
            first
              | exact ih (i + 1) w2 _ _ (by omega) hFF hut2 h2.2 hub2 huh2 rfl (by rw [hi1, ← hR, if_pos (Or.inl (decide_eq_true (nI_z (by omega) q124)))])
              | exact ih (i + 1) w2 _ _ (by omega) hFF hut2 h2.2 hub2 huh2 rfl (by rw [hi1, ← hR, if_pos (Or.inr (by rw [if_pos (ne_f q129)]; exact Int32.not_le.mp q136))])
              | exact ih (i + 1) w2 _ _ (by omega) hFF hut2 h2.2 hub2 huh2 rfl (by rw [hi1, ← hR, if_neg (fun z => z.elim (fun a => q124 (by rw [of_decide_eq_true a]; rfl)) (fun a => by rw [if_pos (ne_f q129)] at a; exact Int32.not_lt.mpr q136 a))])
              | exact ih (i + 1) w2 _ _ (by omega) hFF hut2 h2.2 hub2 huh2 rfl (by rw [hi1, ← hR, if_pos (Or.inr (by rw [if_neg (eq_f q129)]; exact Int32.not_le.mp q146))])
              | exact ih (i + 1) w2 _ _ (by omega) hFF hut2 h2.2 hub2 huh2 rfl (by rw [hi1, ← hR, if_neg (fun z => z.elim (fun a => q124 (by rw [of_decide_eq_true a]; rfl)) (fun a => by rw [if_neg (eq_f q129)] at a; exact Int32.not_lt.mpr q146 a))])
          · refine r_iload 151 dX6_worthBehind_149 rfl rfl ?_
            refine r_istore (ls1 := [_, _, _, _, _, _, _, _, _]) 153 dX6_worthBehind_151 rfl (by decide) rfl rfl ?_
            refine r_iinc (ls1 := [_, _, _, _, _, _, _, _, _]) 156 dX6_worthBehind_153 rfl (by decide) rfl rfl (nI_1 i) rfl ?_
            refine r_goto 91 dX6_worthBehind_156 (by decide) ?_
            first
              | exact ih (i + 1) w2 _ _ (by omega) hFF hut2 h2.2 hub2 huh2 rfl (by rw [hi1, ← hR, if_pos (Or.inl (decide_eq_true (nI_z (by omega) q124)))])
              | exact ih (i + 1) w2 _ _ (by omega) hFF hut2 h2.2 hub2 huh2 rfl (by rw [hi1, ← hR, if_pos (Or.inr (by rw [if_pos (ne_f q129)]; exact Int32.not_le.mp q136))])
              | exact ih (i + 1) w2 _ _ (by omega) hFF hut2 h2.2 hub2 huh2 rfl (by rw [hi1, ← hR, if_neg (fun z => z.elim (fun a => q124 (by rw [of_decide_eq_true a]; rfl)) (fun a => by rw [if_pos (ne_f q129)] at a; exact Int32.not_lt.mpr q136 a))])
              | exact ih (i + 1) w2 _ _ (by omega) hFF hut2 h2.2 hub2 huh2 rfl (by rw [hi1, ← hR, if_pos (Or.inr (by rw [if_neg (eq_f q129)]; exact Int32.not_le.mp q146))])
              | exact ih (i + 1) w2 _ _ (by omega) hFF hut2 h2.2 hub2 huh2 rfl (by rw [hi1, ← hR, if_neg (fun z => z.elim (fun a => q124 (by rw [of_decide_eq_true a]; rfl)) (fun a => by rw [if_neg (eq_f q129)] at a; exact Int32.not_lt.mpr q146 a))])
        · refine r_iload 134 dX6_worthBehind_132 rfl rfl ?_
          refine r_iload 136 dX6_worthBehind_134 rfl rfl ?_
          refine r_icmp_le 153 139 dX6_worthBehind_136 (by decide) rfl (fun q136 => ?_) (fun q136 => ?_)
          · refine r_iinc (ls1 := [_, _, _, _, _, _, _, _, _]) 156 dX6_worthBehind_153 rfl (by decide) rfl rfl (nI_1 i) rfl ?_
            refine r_goto 91 dX6_worthBehind_156 (by decide) ?_
            first
              | exact ih (i + 1) w2 _ _ (by omega) hFF hut2 h2.2 hub2 huh2 rfl (by rw [hi1, ← hR, if_pos (Or.inl (decide_eq_true (nI_z (by omega) q124)))])
              | exact ih (i + 1) w2 _ _ (by omega) hFF hut2 h2.2 hub2 huh2 rfl (by rw [hi1, ← hR, if_pos (Or.inr (by rw [if_pos (ne_f q129)]; exact Int32.not_le.mp q136))])
              | exact ih (i + 1) w2 _ _ (by omega) hFF hut2 h2.2 hub2 huh2 rfl (by rw [hi1, ← hR, if_neg (fun z => z.elim (fun a => q124 (by rw [of_decide_eq_true a]; rfl)) (fun a => by rw [if_pos (ne_f q129)] at a; exact Int32.not_lt.mpr q136 a))])
              | exact ih (i + 1) w2 _ _ (by omega) hFF hut2 h2.2 hub2 huh2 rfl (by rw [hi1, ← hR, if_pos (Or.inr (by rw [if_neg (eq_f q129)]; exact Int32.not_le.mp q146))])
              | exact ih (i + 1) w2 _ _ (by omega) hFF hut2 h2.2 hub2 huh2 rfl (by rw [hi1, ← hR, if_neg (fun z => z.elim (fun a => q124 (by rw [of_decide_eq_true a]; rfl)) (fun a => by rw [if_neg (eq_f q129)] at a; exact Int32.not_lt.mpr q146 a))])
          · refine r_goto 149 dX6_worthBehind_139 (by decide) ?_
            refine r_iload 151 dX6_worthBehind_149 rfl rfl ?_
            refine r_istore (ls1 := [_, _, _, _, _, _, _, _, _]) 153 dX6_worthBehind_151 rfl (by decide) rfl rfl ?_
            refine r_iinc (ls1 := [_, _, _, _, _, _, _, _, _]) 156 dX6_worthBehind_153 rfl (by decide) rfl rfl (nI_1 i) rfl ?_
            refine r_goto 91 dX6_worthBehind_156 (by decide) ?_
            first
              | exact ih (i + 1) w2 _ _ (by omega) hFF hut2 h2.2 hub2 huh2 rfl (by rw [hi1, ← hR, if_pos (Or.inl (decide_eq_true (nI_z (by omega) q124)))])
              | exact ih (i + 1) w2 _ _ (by omega) hFF hut2 h2.2 hub2 huh2 rfl (by rw [hi1, ← hR, if_pos (Or.inr (by rw [if_pos (ne_f q129)]; exact Int32.not_le.mp q136))])
              | exact ih (i + 1) w2 _ _ (by omega) hFF hut2 h2.2 hub2 huh2 rfl (by rw [hi1, ← hR, if_neg (fun z => z.elim (fun a => q124 (by rw [of_decide_eq_true a]; rfl)) (fun a => by rw [if_pos (ne_f q129)] at a; exact Int32.not_lt.mpr q136 a))])
              | exact ih (i + 1) w2 _ _ (by omega) hFF hut2 h2.2 hub2 huh2 rfl (by rw [hi1, ← hR, if_pos (Or.inr (by rw [if_neg (eq_f q129)]; exact Int32.not_le.mp q146))])
              | exact ih (i + 1) w2 _ _ (by omega) hFF hut2 h2.2 hub2 huh2 rfl (by rw [hi1, ← hR, if_neg (fun z => z.elim (fun a => q124 (by rw [of_decide_eq_true a]; rfl)) (fun a => by rw [if_neg (eq_f q129)] at a; exact Int32.not_lt.mpr q146 a))])
  refine Cl.of (ls := [some (.ref 13), some (.int (nI 1)), some (.int sd), none, none, none, none, none, none]) rfl (by decide +kernel) (fun h => by cases h) (Nat.le_of_ble_eq_true rfl) rfl ?_
  refine r_aload_n 1 dX6_worthBehind_0 rfl rfl rfl ?_
  refine r_ifnonnull 6 dX6_worthBehind_1 (by decide) ?_
  refine r_aload_n 7 dX6_worthBehind_6 rfl rfl rfl ?_
  refine r_getf 10 dX6_worthBehind_7 rfl f_X6_204 (by repeat (first | assumption | exact isBd.o (by assumption) | exact isHp.o (by assumption) | exact isGm.o (by assumption) | exact isPd.o (by assumption) | refine gs_eq ?_ | refine gs_ne (by omega) ?_ | exact is_of (by assumption) | refine gs_is ?_)) rfl ?_
  refine r_astore_n (ls1 := [_, _, _, _, _, _, _, _, _]) 11 dX6_worthBehind_10 rfl (by decide) rfl rfl rfl ?_
  refine r_aload_n 12 dX6_worthBehind_11 rfl rfl rfl ?_
  refine r_iload_n 13 dX6_worthBehind_12 rfl rfl ?_
  refine r_callV0 16 dX6_worthBehind_13 rfl (tX0_worthOf hb) l_X6_185 mX0_worthOf rfl (by repeat (first | assumption | exact isBd.o (by assumption) | exact isHp.o (by assumption) | exact isGm.o (by assumption) | exact isPd.o (by assumption) | refine gs_eq ?_ | refine gs_ne (by omega) ?_ | exact is_of (by assumption) | refine gs_is ?_)) rfl (by decide) (Nat.le_of_ble_eq_true rfl) (by decide) (qI ?_)
  refine r_aload_n 17 dX6_worthBehind_16 rfl rfl rfl ?_
  refine r_iconst (v := 1) 18 dX6_worthBehind_17 rfl (by decide) ?_
  refine r_iload_n 19 dX6_worthBehind_18 rfl rfl ?_
  refine r_isub 20 dX6_worthBehind_19 rfl ?_
  refine r_callV0 23 dX6_worthBehind_20 rfl (tX0_worthOf hb) l_X6_185 mX0_worthOf rfl (by repeat (first | assumption | exact isBd.o (by assumption) | exact isHp.o (by assumption) | exact isGm.o (by assumption) | exact isPd.o (by assumption) | refine gs_eq ?_ | refine gs_ne (by omega) ?_ | exact is_of (by assumption) | refine gs_is ?_)) rfl (by decide) (Nat.le_of_ble_eq_true rfl) (by decide) (qI ?_)
  refine r_isub 24 dX6_worthBehind_23 rfl ?_
  refine r_istore (ls1 := [_, _, _, _, _, _, _, _, _]) 26 dX6_worthBehind_24 rfl (by decide) rfl rfl ?_
  refine r_iload_n 27 dX6_worthBehind_26 rfl rfl ?_
  refine r_if_gt 33 30 dX6_worthBehind_27 (by decide) rfl (fun q27 => ?_) (fun q27 => absurd q27 (by decide))
  refine r_aload_n 34 dX6_worthBehind_33 rfl rfl rfl ?_
  refine r_getf 37 dX6_worthBehind_34 rfl f_X6_89.r (by repeat (first | assumption | exact isBd.o (by assumption) | exact isHp.o (by assumption) | exact isGm.o (by assumption) | exact isPd.o (by assumption) | refine gs_eq ?_ | refine gs_ne (by omega) ?_ | exact is_of (by assumption) | refine gs_is ?_)) rfl ?_
  refine r_iload_n 38 dX6_worthBehind_37 rfl rfl ?_
  refine r_icmp_ne 45 41 dX6_worthBehind_38 (by decide) rfl (fun q38 => ?_) (fun q38 => ?_)
  · refine r_iconst (v := 0) 46 dX6_worthBehind_45 rfl (by decide) ?_
    refine r_istore (ls1 := [_, _, _, _, _, _, _, _, _]) 48 dX6_worthBehind_46 rfl (by decide) rfl rfl ?_
    refine r_aload_n 49 dX6_worthBehind_48 rfl rfl rfl ?_
    refine r_getf 52 dX6_worthBehind_49 rfl f_X6_236 (by repeat (first | assumption | exact isBd.o (by assumption) | exact isHp.o (by assumption) | exact isGm.o (by assumption) | exact isPd.o (by assumption) | refine gs_eq ?_ | refine gs_ne (by omega) ?_ | exact is_of (by assumption) | refine gs_is ?_)) rfl ?_
    refine r_aload_n 53 dX6_worthBehind_52 rfl rfl rfl ?_
    refine r_callV0 56 dX6_worthBehind_53 rfl (tX3_list hb hh (by unfold apH; decide) (lenJ hmv) (lenM hmv)) l_X6_240 mX3_list rfl (by repeat (first | assumption | exact isBd.o (by assumption) | exact isHp.o (by assumption) | exact isGm.o (by assumption) | exact isPd.o (by assumption) | refine gs_eq ?_ | refine gs_ne (by omega) ?_ | exact is_of (by assumption) | refine gs_is ?_)) rfl (by decide) (Nat.le_of_ble_eq_true rfl) (by decide) (qN fun w1 h1 => ?_)
    have hF1 : Fr w w1 (fun q => 16 ≤ q ∧ q < 43) := h1.1.mono (fun q a => ⟨by have := a.1; omega, by have := a.2; omega⟩)
    have hA1 : ∀ q, (q < 37 ∨ 43 ≤ q) → w1[q]? = w[q]? := fun q a => h1.1.2 q (by unfold hS; omega)
    have ht1 := ht.fr (fun q a => hA1 q (by omega))
    have hb1 := hb.ag (fun q a b => hA1 q (by omega))
    have hs1 : isSc w1 := hsc.of (pb := 34) (ph := 37) (by decide) ⟨_, _, _, _, hb1⟩ ⟨_, h1.2⟩ (fun q a b c => hA1 q (by omega))
    have ry1 := (hA1 13 (by decide)).trans ry
    have hh10 := h1.2.o
    have hlen := h1.2.1
    refine r_aload_n 57 dX6_worthBehind_56 rfl rfl rfl ?_
    refine r_getf 60 dX6_worthBehind_57 rfl f_X6_236 (by repeat (first | assumption | exact isBd.o (by assumption) | exact isHp.o (by assumption) | exact isGm.o (by assumption) | exact isPd.o (by assumption) | refine gs_eq ?_ | refine gs_ne (by omega) ?_ | exact is_of (by assumption) | refine gs_is ?_)) rfl ?_
    refine r_getf 63 dX6_worthBehind_60 rfl f_X6_188.r (by repeat (first | assumption | exact isBd.o (by assumption) | exact isHp.o (by assumption) | exact isGm.o (by assumption) | exact isPd.o (by assumption) | refine gs_eq ?_ | refine gs_ne (by omega) ?_ | exact is_of (by assumption) | refine gs_is ?_)) rfl ?_
    refine r_if_ne 85 66 dX6_worthBehind_63 (by decide) rfl (fun q63 => ?_) (fun q63 => ?_)
    · refine r_iconst (v := 0) 86 dX6_worthBehind_85 rfl (by decide) ?_
      refine r_istore (ls1 := [_, _, _, _, _, _, _, _, _]) 88 dX6_worthBehind_86 rfl (by decide) rfl rfl ?_
      refine r_iconst (v := nI 0) 89 dX6_worthBehind_88 rfl (by decide) ?_
      refine r_istore (ls1 := [_, _, _, _, _, _, _, _, _]) 91 dX6_worthBehind_89 rfl (by decide) rfl rfl ?_
      have hz : ¬ (hopsC f mv jp).length = 0 := fun z => q63 (by rw [z]; rfl)
      first
        | exact loop (wnO n sd) true (hopsC f mv jp).length 0 w1 0 _ (by omega) hF1 ht1 hs1 hb1 h1.2 rfl (by rw [wB, if_neg hz, decide_eq_true q38]; rfl)
        | exact loop (wnO n sd) false (hopsC f mv jp).length 0 w1 0 _ (by omega) hF1 ht1 hs1 hb1 h1.2 rfl (by rw [wB, if_neg hz, decide_eq_false q38]; rfl)
    · refine r_iload 68 dX6_worthBehind_66 rfl rfl ?_
      refine r_if_eq 79 71 dX6_worthBehind_68 (by decide) rfl (fun q68 => ?_) (fun q68 => absurd q68 (by decide))
      refine r_iload 81 dX6_worthBehind_79 rfl rfl ?_
      refine r_bipush (v := 100) 83 dX6_worthBehind_81 rfl (by decide) ?_
      refine r_iadd 84 dX6_worthBehind_83 rfl ?_
      refine r_iret dX6_worthBehind_84 rfl (by decide) (by decide) ?_
      have hz : (hopsC f mv jp).length = 0 := nI_z (by omega) q63
      first
        | exact ⟨by rw [wB, if_pos hz, if_pos q38]; rfl, hF1, hs1⟩
        | exact ⟨by rw [wB, if_pos hz, if_neg q38]; rfl, hF1, hs1⟩
  · refine r_iconst (v := 1) 42 dX6_worthBehind_41 rfl (by decide) ?_
    refine r_goto 46 dX6_worthBehind_42 (by decide) ?_
    refine r_istore (ls1 := [_, _, _, _, _, _, _, _, _]) 48 dX6_worthBehind_46 rfl (by decide) rfl rfl ?_
    refine r_aload_n 49 dX6_worthBehind_48 rfl rfl rfl ?_
    refine r_getf 52 dX6_worthBehind_49 rfl f_X6_236 (by repeat (first | assumption | exact isBd.o (by assumption) | exact isHp.o (by assumption) | exact isGm.o (by assumption) | exact isPd.o (by assumption) | refine gs_eq ?_ | refine gs_ne (by omega) ?_ | exact is_of (by assumption) | refine gs_is ?_)) rfl ?_
    refine r_aload_n 53 dX6_worthBehind_52 rfl rfl rfl ?_
    refine r_callV0 56 dX6_worthBehind_53 rfl (tX3_list hb hh (by unfold apH; decide) (lenJ hmv) (lenM hmv)) l_X6_240 mX3_list rfl (by repeat (first | assumption | exact isBd.o (by assumption) | exact isHp.o (by assumption) | exact isGm.o (by assumption) | exact isPd.o (by assumption) | refine gs_eq ?_ | refine gs_ne (by omega) ?_ | exact is_of (by assumption) | refine gs_is ?_)) rfl (by decide) (Nat.le_of_ble_eq_true rfl) (by decide) (qN fun w1 h1 => ?_)
    have hF1 : Fr w w1 (fun q => 16 ≤ q ∧ q < 43) := h1.1.mono (fun q a => ⟨by have := a.1; omega, by have := a.2; omega⟩)
    have hA1 : ∀ q, (q < 37 ∨ 43 ≤ q) → w1[q]? = w[q]? := fun q a => h1.1.2 q (by unfold hS; omega)
    have ht1 := ht.fr (fun q a => hA1 q (by omega))
    have hb1 := hb.ag (fun q a b => hA1 q (by omega))
    have hs1 : isSc w1 := hsc.of (pb := 34) (ph := 37) (by decide) ⟨_, _, _, _, hb1⟩ ⟨_, h1.2⟩ (fun q a b c => hA1 q (by omega))
    have ry1 := (hA1 13 (by decide)).trans ry
    have hh10 := h1.2.o
    have hlen := h1.2.1
    refine r_aload_n 57 dX6_worthBehind_56 rfl rfl rfl ?_
    refine r_getf 60 dX6_worthBehind_57 rfl f_X6_236 (by repeat (first | assumption | exact isBd.o (by assumption) | exact isHp.o (by assumption) | exact isGm.o (by assumption) | exact isPd.o (by assumption) | refine gs_eq ?_ | refine gs_ne (by omega) ?_ | exact is_of (by assumption) | refine gs_is ?_)) rfl ?_
    refine r_getf 63 dX6_worthBehind_60 rfl f_X6_188.r (by repeat (first | assumption | exact isBd.o (by assumption) | exact isHp.o (by assumption) | exact isGm.o (by assumption) | exact isPd.o (by assumption) | refine gs_eq ?_ | refine gs_ne (by omega) ?_ | exact is_of (by assumption) | refine gs_is ?_)) rfl ?_
    refine r_if_ne 85 66 dX6_worthBehind_63 (by decide) rfl (fun q63 => ?_) (fun q63 => ?_)
    · refine r_iconst (v := 0) 86 dX6_worthBehind_85 rfl (by decide) ?_
      refine r_istore (ls1 := [_, _, _, _, _, _, _, _, _]) 88 dX6_worthBehind_86 rfl (by decide) rfl rfl ?_
      refine r_iconst (v := nI 0) 89 dX6_worthBehind_88 rfl (by decide) ?_
      refine r_istore (ls1 := [_, _, _, _, _, _, _, _, _]) 91 dX6_worthBehind_89 rfl (by decide) rfl rfl ?_
      have hz : ¬ (hopsC f mv jp).length = 0 := fun z => q63 (by rw [z]; rfl)
      first
        | exact loop (wnO n sd) true (hopsC f mv jp).length 0 w1 0 _ (by omega) hF1 ht1 hs1 hb1 h1.2 rfl (by rw [wB, if_neg hz, decide_eq_true q38]; rfl)
        | exact loop (wnO n sd) false (hopsC f mv jp).length 0 w1 0 _ (by omega) hF1 ht1 hs1 hb1 h1.2 rfl (by rw [wB, if_neg hz, decide_eq_false q38]; rfl)
    · refine r_iload 68 dX6_worthBehind_66 rfl rfl ?_
      refine r_if_eq 79 71 dX6_worthBehind_68 (by decide) rfl (fun q68 => absurd q68 (by decide)) (fun q68 => ?_)
      refine r_iload 73 dX6_worthBehind_71 rfl rfl ?_
      refine r_bipush (v := 100) 75 dX6_worthBehind_73 rfl (by decide) ?_
      refine r_isub 76 dX6_worthBehind_75 rfl ?_
      refine r_goto 84 dX6_worthBehind_76 (by decide) ?_
      refine r_iret dX6_worthBehind_84 rfl (by decide) (by decide) ?_
      have hz : (hopsC f mv jp).length = 0 := nI_z (by omega) q63
      first
        | exact ⟨by rw [wB, if_pos hz, if_pos q38]; rfl, hF1, hs1⟩
        | exact ⟨by rw [wB, if_pos hz, if_neg q38]; rfl, hF1, hs1⟩

set_option maxRecDepth 100000 in
theorem tWorth02 {Γ : CT} {w : PW} {f n : Nat → Int32} {mv jp sd : Int32} (ht : isTp w) (hsc : isSc w) (hb : isBd w 34 f n mv jp) (hmv : mv = 0 ∨ mv = 1) : Cl Γ yX6_worthBehind XX6_worthBehind 8 0 0 [.ref 13, .int (nI 2), .int sd] w (rP (wB 2 f n mv jp sd) (fun w1 => Fr w w1 (fun q => 16 ≤ q ∧ q < 43) ∧ isSc w1)) := by
  have ry := ht.2.1
  obtain ⟨l0, hh⟩ := hsc.2.1
  have hh0 := hh.o
  have loop : ∀ (wn : Int32) (own : Bool) (m i : Nat) (u : PW) (best : Int32) (x8 : Option Value), i + m = (hopsC f mv jp).length → (Fr w u (fun q => 16 ≤ q ∧ q < 43)) → (isTp u) → (isSc u) → (isBd u 34 f n mv jp) → (isHp u 37 (hopsC f mv jp)) → (nl x8 = true) → (bsO own (fun q => wB 1 (mkF f mv q) (mkN f n mv q) (mkM f mv q) (mkJ f mv q) sd) ((hopsC f mv jp).drop i) (decide (i = 0)) best = wB 2 f n mv jp sd) → Rn Γ XX6_worthBehind (rmO 8 0 0) none (FinM (rP (wB 2 f n mv jp sd) (fun w1 => Fr w w1 (fun q => 16 ≤ q ∧ q < 43) ∧ isSc w1)) 0 0) 0 0 u 91 [some (.ref 13), some (.int (nI 2)), some (.int sd), some (.ref 34), some (.int wn), some (.int (bI own)), some (.int best), some (.int (nI i)), x8] [] := by
    intro wn own m
    induction m with
    | zero =>
      intro i u best x8 hi hF hut hus hub huh e8 hR
      have h9 : i = (hopsC f mv jp).length := by omega
      subst h9
      have ry0 := hut.2.1
      have huh0 := huh.o
      have hl9 := huh.1
      rw [List.drop_length] at hR
      refine r_iload 93 dX6_worthBehind_91 rfl rfl ?_
      refine r_aload_n 94 dX6_worthBehind_93 rfl rfl rfl ?_
      refine r_getf 97 dX6_worthBehind_94 rfl f_X6_236 (by repeat (first | assumption | exact isBd.o (by assumption) | exact isHp.o (by assumption) | exact isGm.o (by assumption) | exact isPd.o (by assumption) | refine gs_eq ?_ | refine gs_ne (by omega) ?_ | exact is_of (by assumption) | refine gs_is ?_)) rfl ?_
      refine r_getf 100 dX6_worthBehind_97 rfl f_X6_188.r (by repeat (first | assumption | exact isBd.o (by assumption) | exact isHp.o (by assumption) | exact isGm.o (by assumption) | exact isPd.o (by assumption) | refine gs_eq ?_ | refine gs_ne (by omega) ?_ | exact is_of (by assumption) | refine gs_is ?_)) rfl ?_
      refine r_icmp_ge 159 103 dX6_worthBehind_100 (by decide) rfl (fun q100 => ?_) (fun q100 => absurd q100 (fun z => z (nI_le (by omega) (by omega))))
      refine r_iload 161 dX6_worthBehind_159 rfl rfl ?_
      refine r_iret dX6_worthBehind_161 rfl (by decide) (by decide) ?_
      exact ⟨by rw [← hR]; rfl, hF, hus⟩
    | succ m ih =>
      intro i u best x8 hi hF hut hus hub huh e8 hR
      have ry0 := hut.2.1
      have huh0 := huh.o
      have hl9 := huh.1
      obtain ⟨q, hq, hdr⟩ := drop_c (l := hopsC f mv jp) (i := i) (by omega)
      rw [hdr, bsO] at hR
      have hPH := hopsC_PH (List.mem_of_getElem? hq)
      have hto : q.2.1 < 48 := by rw [hPH.2.2.2.2.1]; exact nk_lt hPH.1
      obtain ⟨f2, n2, v2, p2, hnb⟩ := hus.2.2.1
      refine r_iload 93 dX6_worthBehind_91 rfl rfl ?_
      refine r_aload_n 94 dX6_worthBehind_93 rfl rfl rfl ?_
      refine r_getf 97 dX6_worthBehind_94 rfl f_X6_236 (by repeat (first | assumption | exact isBd.o (by assumption) | exact isHp.o (by assumption) | exact isGm.o (by assumption) | exact isPd.o (by assumption) | refine gs_eq ?_ | refine gs_ne (by omega) ?_ | exact is_of (by assumption) | refine gs_is ?_)) rfl ?_
      refine r_getf 100 dX6_worthBehind_97 rfl f_X6_188.r (by repeat (first | assumption | exact isBd.o (by assumption) | exact isHp.o (by assumption) | exact isGm.o (by assumption) | exact isPd.o (by assumption) | refine gs_eq ?_ | refine gs_ne (by omega) ?_ | exact is_of (by assumption) | refine gs_is ?_)) rfl ?_
      refine r_icmp_ge 159 103 dX6_worthBehind_100 (by decide) rfl (fun q100 => absurd q100 (nI_ge (by omega) (by omega))) (fun q100 => ?_)
      refine r_aload_n 104 dX6_worthBehind_103 rfl rfl rfl ?_
      refine r_iload 106 dX6_worthBehind_104 rfl rfl ?_
      refine r_callV0 109 dX6_worthBehind_106 rfl (tX5_tryHop (y1 := 14) (nb := 25) (nh := 28) ry0 hut.2.2.1 hub huh hnb hq hto hPH.1 (by decide) (by unfold apH; decide) (by decide) (by decide)) l_X6_216 mX5_tryHop rfl (by repeat (first | assumption | exact isBd.o (by assumption) | exact isHp.o (by assumption) | exact isGm.o (by assumption) | exact isPd.o (by assumption) | refine gs_eq ?_ | refine gs_ne (by omega) ?_ | exact is_of (by assumption) | refine gs_is ?_)) rfl (by decide) (Nat.le_of_ble_eq_true rfl) (by decide) (qN fun w1 h1 => ?_)
      have hA1 : ∀ q, (q < 25 ∨ 28 ≤ q) → w1[q]? = u[q]? := fun q a => h1.1.2 q (by unfold bS; omega)
      have hut1 := hut.fr (fun q a => hA1 q (by omega))
      have hus1 : isSc w1 := hus.of (pb := 25) (ph := 28) (by decide) ⟨_, _, _, _, h1.2⟩ (xHp.ag hus.2.2.2.1 (fun q a b => hA1 q (by omega))) (fun q a b c => hA1 q (by omega))
      have ry1 := (hA1 13 (by decide)).trans ry0
      refine r_aload_n 110 dX6_worthBehind_109 rfl rfl rfl ?_
      refine r_getf 113 dX6_worthBehind_110 rfl f_X6_220 (by repeat (first | assumption | exact isBd.o (by assumption) | exact isHp.o (by assumption) | exact isGm.o (by assumption) | exact isPd.o (by assumption) | refine gs_eq ?_ | refine gs_ne (by omega) ?_ | exact is_of (by assumption) | refine gs_is ?_)) rfl ?_
      refine r_iload_n 114 dX6_worthBehind_113 rfl rfl ?_
      refine r_iconst (v := nI 1) 115 dX6_worthBehind_114 rfl (by decide) ?_
      refine r_isub 116 dX6_worthBehind_115 rfl ?_
      refine r_iload_n 117 dX6_worthBehind_116 rfl rfl ?_
      rw [pk_sub (a := 2) (b := 1) (by decide)]
      refine r_callS0 120 dX6_worthBehind_117 rfl (tWorth11 hut1 hus1 h1.2 (mkM_01 hmv)) l_X6_213 mX6_worthBehind rfl (by decide) (Nat.le_of_ble_eq_true rfl) (by decide) (qP fun w2 h2 => ?_)
      have hA2 : ∀ q, (q < 16 ∨ 34 ≤ q) → w2[q]? = w1[q]? := fun q a => h2.1.2 q (by omega)
      have hut2 := hut1.fr (fun q a => hA2 q (by omega))
      have hFF := (hF.tr (h1.1.mono (fun q a => ⟨by have := a.1; omega, by have := a.2; omega⟩))).tr (h2.1.mono (fun q a => ⟨a.1, by have := a.2; omega⟩))
      have hub2 := hub.ag (fun q a b => (hA2 q (by omega)).trans (hA1 q (by omega)))
      have huh2 := huh.ag (fun q a b => (hA2 q (by omega)).trans (hA1 q (by omega)))
      have hi1 : decide (i + 1 = 0) = false := decide_eq_false (by omega)
      refine r_istore (ls1 := [_, _, _, _, _, _, _, _, _]) 122 dX6_worthBehind_120 rfl (by decide) rfl rfl ?_
      refine r_iload 124 dX6_worthBehind_122 rfl rfl ?_
      refine r_if_eq 149 127 dX6_worthBehind_124 (by decide) rfl (fun q124 => ?_) (fun q124 => ?_)
      · refine r_iload 151 dX6_worthBehind_149 rfl rfl ?_
        refine r_istore (ls1 := [_, _, _, _, _, _, _, _, _]) 153 dX6_worthBehind_151 rfl (by decide) rfl rfl ?_
        refine r_iinc (ls1 := [_, _, _, _, _, _, _, _, _]) 156 dX6_worthBehind_153 rfl (by decide) rfl rfl (nI_1 i) rfl ?_
        refine r_goto 91 dX6_worthBehind_156 (by decide) ?_
        first
          | exact ih (i + 1) w2 _ _ (by omega) hFF hut2 h2.2 hub2 huh2 rfl (by rw [hi1, ← hR, if_pos (Or.inl (decide_eq_true (nI_z (by omega) q124)))])
          | exact ih (i + 1) w2 _ _ (by omega) hFF hut2 h2.2 hub2 huh2 rfl (by rw [hi1, ← hR, if_pos (Or.inr (by rw [if_pos (ne_f q129)]; exact Int32.not_le.mp q136))])
          | exact ih (i + 1) w2 _ _ (by omega) hFF hut2 h2.2 hub2 huh2 rfl (by rw [hi1, ← hR, if_neg (fun z => z.elim (fun a => q124 (by rw [of_decide_eq_true a]; rfl)) (fun a => by rw [if_pos (ne_f q129)] at a; exact Int32.not_lt.mpr q136 a))])
          | exact ih (i + 1) w2 _ _ (by omega) hFF hut2 h2.2 hub2 huh2 rfl (by rw [hi1, ← hR, if_pos (Or.inr (by rw [if_neg (eq_f q129)]; exact Int32.not_le.mp q146))])
          | exact ih (i + 1) w2 _ _ (by omega) hFF hut2 h2.2 hub2 huh2 rfl (by rw [hi1, ← hR, if_neg (fun z => z.elim (fun a => q124 (by rw [of_decide_eq_true a]; rfl)) (fun a => by rw [if_neg (eq_f q129)] at a; exact Int32.not_lt.mpr q146 a))])
      · refine r_iload 129 dX6_worthBehind_127 rfl rfl ?_
        refine r_if_eq 142 132 dX6_worthBehind_129 (by decide) rfl (fun q129 => ?_) (fun q129 => ?_)
        · refine r_iload 144 dX6_worthBehind_142 rfl rfl ?_
          refine r_iload 146 dX6_worthBehind_144 rfl rfl ?_
          refine r_icmp_ge 153 149 dX6_worthBehind_146 (by decide) rfl (fun q146 => ?_) (fun q146 => ?_)
          · refine r_iinc (ls1 := [_, _, _, _, _, _, _, _, _]) 156 dX6_worthBehind_153 rfl (by decide) rfl rfl (nI_1 i) rfl ?_
            refine r_goto 91 dX6_worthBehind_156 (by decide) ?_
            first
              | exact ih (i + 1) w2 _ _ (by omega) hFF hut2 h2.2 hub2 huh2 rfl (by rw [hi1, ← hR, if_pos (Or.inl (decide_eq_true (nI_z (by omega) q124)))])
              | exact ih (i + 1) w2 _ _ (by omega) hFF hut2 h2.2 hub2 huh2 rfl (by rw [hi1, ← hR, if_pos (Or.inr (by rw [if_pos (ne_f q129)]; exact Int32.not_le.mp q136))])
              | exact ih (i + 1) w2 _ _ (by omega) hFF hut2 h2.2 hub2 huh2 rfl (by rw [hi1, ← hR, if_neg (fun z => z.elim (fun a => q124 (by rw [of_decide_eq_true a]; rfl)) (fun a => by rw [if_pos (ne_f q129)] at a; exact Int32.not_lt.mpr q136 a))])
              | exact ih (i + 1) w2 _ _ (by omega) hFF hut2 h2.2 hub2 huh2 rfl (by rw [hi1, ← hR, if_pos (Or.inr (by rw [if_neg (eq_f q129)]; exact Int32.not_le.mp q146))])
              | exact ih (i + 1) w2 _ _ (by omega) hFF hut2 h2.2 hub2 huh2 rfl (by rw [hi1, ← hR, if_neg (fun z => z.elim (fun a => q124 (by rw [of_decide_eq_true a]; rfl)) (fun a => by rw [if_neg (eq_f q129)] at a; exact Int32.not_lt.mpr q146 a))])
          · refine r_iload 151 dX6_worthBehind_149 rfl rfl ?_
            refine r_istore (ls1 := [_, _, _, _, _, _, _, _, _]) 153 dX6_worthBehind_151 rfl (by decide) rfl rfl ?_
            refine r_iinc (ls1 := [_, _, _, _, _, _, _, _, _]) 156 dX6_worthBehind_153 rfl (by decide) rfl rfl (nI_1 i) rfl ?_
            refine r_goto 91 dX6_worthBehind_156 (by decide) ?_
            first
              | exact ih (i + 1) w2 _ _ (by omega) hFF hut2 h2.2 hub2 huh2 rfl (by rw [hi1, ← hR, if_pos (Or.inl (decide_eq_true (nI_z (by omega) q124)))])
              | exact ih (i + 1) w2 _ _ (by omega) hFF hut2 h2.2 hub2 huh2 rfl (by rw [hi1, ← hR, if_pos (Or.inr (by rw [if_pos (ne_f q129)]; exact Int32.not_le.mp q136))])
              | exact ih (i + 1) w2 _ _ (by omega) hFF hut2 h2.2 hub2 huh2 rfl (by rw [hi1, ← hR, if_neg (fun z => z.elim (fun a => q124 (by rw [of_decide_eq_true a]; rfl)) (fun a => by rw [if_pos (ne_f q129)] at a; exact Int32.not_lt.mpr q136 a))])
              | exact ih (i + 1) w2 _ _ (by omega) hFF hut2 h2.2 hub2 huh2 rfl (by rw [hi1, ← hR, if_pos (Or.inr (by rw [if_neg (eq_f q129)]; exact Int32.not_le.mp q146))])
              | exact ih (i + 1) w2 _ _ (by omega) hFF hut2 h2.2 hub2 huh2 rfl (by rw [hi1, ← hR, if_neg (fun z => z.elim (fun a => q124 (by rw [of_decide_eq_true a]; rfl)) (fun a => by rw [if_neg (eq_f q129)] at a; exact Int32.not_lt.mpr q146 a))])
        · refine r_iload 134 dX6_worthBehind_132 rfl rfl ?_
          refine r_iload 136 dX6_worthBehind_134 rfl rfl ?_
          refine r_icmp_le 153 139 dX6_worthBehind_136 (by decide) rfl (fun q136 => ?_) (fun q136 => ?_)
          · refine r_iinc (ls1 := [_, _, _, _, _, _, _, _, _]) 156 dX6_worthBehind_153 rfl (by decide) rfl rfl (nI_1 i) rfl ?_
            refine r_goto 91 dX6_worthBehind_156 (by decide) ?_
            first
              | exact ih (i + 1) w2 _ _ (by omega) hFF hut2 h2.2 hub2 huh2 rfl (by rw [hi1, ← hR, if_pos (Or.inl (decide_eq_true (nI_z (by omega) q124)))])
              | exact ih (i + 1) w2 _ _ (by omega) hFF hut2 h2.2 hub2 huh2 rfl (by rw [hi1, ← hR, if_pos (Or.inr (by rw [if_pos (ne_f q129)]; exact Int32.not_le.mp q136))])
              | exact ih (i + 1) w2 _ _ (by omega) hFF hut2 h2.2 hub2 huh2 rfl (by rw [hi1, ← hR, if_neg (fun z => z.elim (fun a => q124 (by rw [of_decide_eq_true a]; rfl)) (fun a => by rw [if_pos (ne_f q129)] at a; exact Int32.not_lt.mpr q136 a))])
              | exact ih (i + 1) w2 _ _ (by omega) hFF hut2 h2.2 hub2 huh2 rfl (by rw [hi1, ← hR, if_pos (Or.inr (by rw [if_neg (eq_f q129)]; exact Int32.not_le.mp q146))])
              | exact ih (i + 1) w2 _ _ (by omega) hFF hut2 h2.2 hub2 huh2 rfl (by rw [hi1, ← hR, if_neg (fun z => z.elim (fun a => q124 (by rw [of_decide_eq_true a]; rfl)) (fun a => by rw [if_neg (eq_f q129)] at a; exact Int32.not_lt.mpr q146 a))])
          · refine r_goto 149 dX6_worthBehind_139 (by decide) ?_
            refine r_iload 151 dX6_worthBehind_149 rfl rfl ?_
            refine r_istore (ls1 := [_, _, _, _, _, _, _, _, _]) 153 dX6_worthBehind_151 rfl (by decide) rfl rfl ?_
            refine r_iinc (ls1 := [_, _, _, _, _, _, _, _, _]) 156 dX6_worthBehind_153 rfl (by decide) rfl rfl (nI_1 i) rfl ?_
            refine r_goto 91 dX6_worthBehind_156 (by decide) ?_
            first
              | exact ih (i + 1) w2 _ _ (by omega) hFF hut2 h2.2 hub2 huh2 rfl (by rw [hi1, ← hR, if_pos (Or.inl (decide_eq_true (nI_z (by omega) q124)))])
              | exact ih (i + 1) w2 _ _ (by omega) hFF hut2 h2.2 hub2 huh2 rfl (by rw [hi1, ← hR, if_pos (Or.inr (by rw [if_pos (ne_f q129)]; exact Int32.not_le.mp q136))])
              | exact ih (i + 1) w2 _ _ (by omega) hFF hut2 h2.2 hub2 huh2 rfl (by rw [hi1, ← hR, if_neg (fun z => z.elim (fun a => q124 (by rw [of_decide_eq_true a]; rfl)) (fun a => by rw [if_pos (ne_f q129)] at a; exact Int32.not_lt.mpr q136 a))])
              | exact ih (i + 1) w2 _ _ (by omega) hFF hut2 h2.2 hub2 huh2 rfl (by rw [hi1, ← hR, if_pos (Or.inr (by rw [if_neg (eq_f q129)]; exact Int32.not_le.mp q146))])
              | exact ih (i + 1) w2 _ _ (by omega) hFF hut2 h2.2 hub2 huh2 rfl (by rw [hi1, ← hR, if_neg (fun z => z.elim (fun a => q124 (by rw [of_decide_eq_true a]; rfl)) (fun a => by rw [if_neg (eq_f q129)] at a; exact Int32.not_lt.mpr q146 a))])
  refine Cl.of (ls := [some (.ref 13), some (.int (nI 2)), some (.int sd), none, none, none, none, none, none]) rfl (by decide +kernel) (fun h => by cases h) (Nat.le_of_ble_eq_true rfl) rfl ?_
  refine r_aload_n 1 dX6_worthBehind_0 rfl rfl rfl ?_
  refine r_ifnonnull 6 dX6_worthBehind_1 (by decide) ?_
  refine r_aload_n 7 dX6_worthBehind_6 rfl rfl rfl ?_
  refine r_getf 10 dX6_worthBehind_7 rfl f_X6_204 (by repeat (first | assumption | exact isBd.o (by assumption) | exact isHp.o (by assumption) | exact isGm.o (by assumption) | exact isPd.o (by assumption) | refine gs_eq ?_ | refine gs_ne (by omega) ?_ | exact is_of (by assumption) | refine gs_is ?_)) rfl ?_
  refine r_astore_n (ls1 := [_, _, _, _, _, _, _, _, _]) 11 dX6_worthBehind_10 rfl (by decide) rfl rfl rfl ?_
  refine r_aload_n 12 dX6_worthBehind_11 rfl rfl rfl ?_
  refine r_iload_n 13 dX6_worthBehind_12 rfl rfl ?_
  refine r_callV0 16 dX6_worthBehind_13 rfl (tX0_worthOf hb) l_X6_185 mX0_worthOf rfl (by repeat (first | assumption | exact isBd.o (by assumption) | exact isHp.o (by assumption) | exact isGm.o (by assumption) | exact isPd.o (by assumption) | refine gs_eq ?_ | refine gs_ne (by omega) ?_ | exact is_of (by assumption) | refine gs_is ?_)) rfl (by decide) (Nat.le_of_ble_eq_true rfl) (by decide) (qI ?_)
  refine r_aload_n 17 dX6_worthBehind_16 rfl rfl rfl ?_
  refine r_iconst (v := 1) 18 dX6_worthBehind_17 rfl (by decide) ?_
  refine r_iload_n 19 dX6_worthBehind_18 rfl rfl ?_
  refine r_isub 20 dX6_worthBehind_19 rfl ?_
  refine r_callV0 23 dX6_worthBehind_20 rfl (tX0_worthOf hb) l_X6_185 mX0_worthOf rfl (by repeat (first | assumption | exact isBd.o (by assumption) | exact isHp.o (by assumption) | exact isGm.o (by assumption) | exact isPd.o (by assumption) | refine gs_eq ?_ | refine gs_ne (by omega) ?_ | exact is_of (by assumption) | refine gs_is ?_)) rfl (by decide) (Nat.le_of_ble_eq_true rfl) (by decide) (qI ?_)
  refine r_isub 24 dX6_worthBehind_23 rfl ?_
  refine r_istore (ls1 := [_, _, _, _, _, _, _, _, _]) 26 dX6_worthBehind_24 rfl (by decide) rfl rfl ?_
  refine r_iload_n 27 dX6_worthBehind_26 rfl rfl ?_
  refine r_if_gt 33 30 dX6_worthBehind_27 (by decide) rfl (fun q27 => ?_) (fun q27 => absurd q27 (by decide))
  refine r_aload_n 34 dX6_worthBehind_33 rfl rfl rfl ?_
  refine r_getf 37 dX6_worthBehind_34 rfl f_X6_89.r (by repeat (first | assumption | exact isBd.o (by assumption) | exact isHp.o (by assumption) | exact isGm.o (by assumption) | exact isPd.o (by assumption) | refine gs_eq ?_ | refine gs_ne (by omega) ?_ | exact is_of (by assumption) | refine gs_is ?_)) rfl ?_
  refine r_iload_n 38 dX6_worthBehind_37 rfl rfl ?_
  refine r_icmp_ne 45 41 dX6_worthBehind_38 (by decide) rfl (fun q38 => ?_) (fun q38 => ?_)
  · refine r_iconst (v := 0) 46 dX6_worthBehind_45 rfl (by decide) ?_
    refine r_istore (ls1 := [_, _, _, _, _, _, _, _, _]) 48 dX6_worthBehind_46 rfl (by decide) rfl rfl ?_
    refine r_aload_n 49 dX6_worthBehind_48 rfl rfl rfl ?_
    refine r_getf 52 dX6_worthBehind_49 rfl f_X6_236 (by repeat (first | assumption | exact isBd.o (by assumption) | exact isHp.o (by assumption) | exact isGm.o (by assumption) | exact isPd.o (by assumption) | refine gs_eq ?_ | refine gs_ne (by omega) ?_ | exact is_of (by assumption) | refine gs_is ?_)) rfl ?_
    refine r_aload_n 53 dX6_worthBehind_52 rfl rfl rfl ?_
    refine r_callV0 56 dX6_worthBehind_53 rfl (tX3_list hb hh (by unfold apH; decide) (lenJ hmv) (lenM hmv)) l_X6_240 mX3_list rfl (by repeat (first | assumption | exact isBd.o (by assumption) | exact isHp.o (by assumption) | exact isGm.o (by assumption) | exact isPd.o (by assumption) | refine gs_eq ?_ | refine gs_ne (by omega) ?_ | exact is_of (by assumption) | refine gs_is ?_)) rfl (by decide) (Nat.le_of_ble_eq_true rfl) (by decide) (qN fun w1 h1 => ?_)
    have hF1 : Fr w w1 (fun q => 16 ≤ q ∧ q < 43) := h1.1.mono (fun q a => ⟨by have := a.1; omega, by have := a.2; omega⟩)
    have hA1 : ∀ q, (q < 37 ∨ 43 ≤ q) → w1[q]? = w[q]? := fun q a => h1.1.2 q (by unfold hS; omega)
    have ht1 := ht.fr (fun q a => hA1 q (by omega))
    have hb1 := hb.ag (fun q a b => hA1 q (by omega))
    have hs1 : isSc w1 := hsc.of (pb := 34) (ph := 37) (by decide) ⟨_, _, _, _, hb1⟩ ⟨_, h1.2⟩ (fun q a b c => hA1 q (by omega))
    have ry1 := (hA1 13 (by decide)).trans ry
    have hh10 := h1.2.o
    have hlen := h1.2.1
    refine r_aload_n 57 dX6_worthBehind_56 rfl rfl rfl ?_
    refine r_getf 60 dX6_worthBehind_57 rfl f_X6_236 (by repeat (first | assumption | exact isBd.o (by assumption) | exact isHp.o (by assumption) | exact isGm.o (by assumption) | exact isPd.o (by assumption) | refine gs_eq ?_ | refine gs_ne (by omega) ?_ | exact is_of (by assumption) | refine gs_is ?_)) rfl ?_
    refine r_getf 63 dX6_worthBehind_60 rfl f_X6_188.r (by repeat (first | assumption | exact isBd.o (by assumption) | exact isHp.o (by assumption) | exact isGm.o (by assumption) | exact isPd.o (by assumption) | refine gs_eq ?_ | refine gs_ne (by omega) ?_ | exact is_of (by assumption) | refine gs_is ?_)) rfl ?_
    refine r_if_ne 85 66 dX6_worthBehind_63 (by decide) rfl (fun q63 => ?_) (fun q63 => ?_)
    · refine r_iconst (v := 0) 86 dX6_worthBehind_85 rfl (by decide) ?_
      refine r_istore (ls1 := [_, _, _, _, _, _, _, _, _]) 88 dX6_worthBehind_86 rfl (by decide) rfl rfl ?_
      refine r_iconst (v := nI 0) 89 dX6_worthBehind_88 rfl (by decide) ?_
      refine r_istore (ls1 := [_, _, _, _, _, _, _, _, _]) 91 dX6_worthBehind_89 rfl (by decide) rfl rfl ?_
      have hz : ¬ (hopsC f mv jp).length = 0 := fun z => q63 (by rw [z]; rfl)
      first
        | exact loop (wnO n sd) true (hopsC f mv jp).length 0 w1 0 _ (by omega) hF1 ht1 hs1 hb1 h1.2 rfl (by rw [wB, if_neg hz, decide_eq_true q38]; rfl)
        | exact loop (wnO n sd) false (hopsC f mv jp).length 0 w1 0 _ (by omega) hF1 ht1 hs1 hb1 h1.2 rfl (by rw [wB, if_neg hz, decide_eq_false q38]; rfl)
    · refine r_iload 68 dX6_worthBehind_66 rfl rfl ?_
      refine r_if_eq 79 71 dX6_worthBehind_68 (by decide) rfl (fun q68 => ?_) (fun q68 => absurd q68 (by decide))
      refine r_iload 81 dX6_worthBehind_79 rfl rfl ?_
      refine r_bipush (v := 100) 83 dX6_worthBehind_81 rfl (by decide) ?_
      refine r_iadd 84 dX6_worthBehind_83 rfl ?_
      refine r_iret dX6_worthBehind_84 rfl (by decide) (by decide) ?_
      have hz : (hopsC f mv jp).length = 0 := nI_z (by omega) q63
      first
        | exact ⟨by rw [wB, if_pos hz, if_pos q38]; rfl, hF1, hs1⟩
        | exact ⟨by rw [wB, if_pos hz, if_neg q38]; rfl, hF1, hs1⟩
  · refine r_iconst (v := 1) 42 dX6_worthBehind_41 rfl (by decide) ?_
    refine r_goto 46 dX6_worthBehind_42 (by decide) ?_
    refine r_istore (ls1 := [_, _, _, _, _, _, _, _, _]) 48 dX6_worthBehind_46 rfl (by decide) rfl rfl ?_
    refine r_aload_n 49 dX6_worthBehind_48 rfl rfl rfl ?_
    refine r_getf 52 dX6_worthBehind_49 rfl f_X6_236 (by repeat (first | assumption | exact isBd.o (by assumption) | exact isHp.o (by assumption) | exact isGm.o (by assumption) | exact isPd.o (by assumption) | refine gs_eq ?_ | refine gs_ne (by omega) ?_ | exact is_of (by assumption) | refine gs_is ?_)) rfl ?_
    refine r_aload_n 53 dX6_worthBehind_52 rfl rfl rfl ?_
    refine r_callV0 56 dX6_worthBehind_53 rfl (tX3_list hb hh (by unfold apH; decide) (lenJ hmv) (lenM hmv)) l_X6_240 mX3_list rfl (by repeat (first | assumption | exact isBd.o (by assumption) | exact isHp.o (by assumption) | exact isGm.o (by assumption) | exact isPd.o (by assumption) | refine gs_eq ?_ | refine gs_ne (by omega) ?_ | exact is_of (by assumption) | refine gs_is ?_)) rfl (by decide) (Nat.le_of_ble_eq_true rfl) (by decide) (qN fun w1 h1 => ?_)
    have hF1 : Fr w w1 (fun q => 16 ≤ q ∧ q < 43) := h1.1.mono (fun q a => ⟨by have := a.1; omega, by have := a.2; omega⟩)
    have hA1 : ∀ q, (q < 37 ∨ 43 ≤ q) → w1[q]? = w[q]? := fun q a => h1.1.2 q (by unfold hS; omega)
    have ht1 := ht.fr (fun q a => hA1 q (by omega))
    have hb1 := hb.ag (fun q a b => hA1 q (by omega))
    have hs1 : isSc w1 := hsc.of (pb := 34) (ph := 37) (by decide) ⟨_, _, _, _, hb1⟩ ⟨_, h1.2⟩ (fun q a b c => hA1 q (by omega))
    have ry1 := (hA1 13 (by decide)).trans ry
    have hh10 := h1.2.o
    have hlen := h1.2.1
    refine r_aload_n 57 dX6_worthBehind_56 rfl rfl rfl ?_
    refine r_getf 60 dX6_worthBehind_57 rfl f_X6_236 (by repeat (first | assumption | exact isBd.o (by assumption) | exact isHp.o (by assumption) | exact isGm.o (by assumption) | exact isPd.o (by assumption) | refine gs_eq ?_ | refine gs_ne (by omega) ?_ | exact is_of (by assumption) | refine gs_is ?_)) rfl ?_
    refine r_getf 63 dX6_worthBehind_60 rfl f_X6_188.r (by repeat (first | assumption | exact isBd.o (by assumption) | exact isHp.o (by assumption) | exact isGm.o (by assumption) | exact isPd.o (by assumption) | refine gs_eq ?_ | refine gs_ne (by omega) ?_ | exact is_of (by assumption) | refine gs_is ?_)) rfl ?_
    refine r_if_ne 85 66 dX6_worthBehind_63 (by decide) rfl (fun q63 => ?_) (fun q63 => ?_)
    · refine r_iconst (v := 0) 86 dX6_worthBehind_85 rfl (by decide) ?_
      refine r_istore (ls1 := [_, _, _, _, _, _, _, _, _]) 88 dX6_worthBehind_86 rfl (by decide) rfl rfl ?_
      refine r_iconst (v := nI 0) 89 dX6_worthBehind_88 rfl (by decide) ?_
      refine r_istore (ls1 := [_, _, _, _, _, _, _, _, _]) 91 dX6_worthBehind_89 rfl (by decide) rfl rfl ?_
      have hz : ¬ (hopsC f mv jp).length = 0 := fun z => q63 (by rw [z]; rfl)
      first
        | exact loop (wnO n sd) true (hopsC f mv jp).length 0 w1 0 _ (by omega) hF1 ht1 hs1 hb1 h1.2 rfl (by rw [wB, if_neg hz, decide_eq_true q38]; rfl)
        | exact loop (wnO n sd) false (hopsC f mv jp).length 0 w1 0 _ (by omega) hF1 ht1 hs1 hb1 h1.2 rfl (by rw [wB, if_neg hz, decide_eq_false q38]; rfl)
    · refine r_iload 68 dX6_worthBehind_66 rfl rfl ?_
      refine r_if_eq 79 71 dX6_worthBehind_68 (by decide) rfl (fun q68 => absurd q68 (by decide)) (fun q68 => ?_)
      refine r_iload 73 dX6_worthBehind_71 rfl rfl ?_
      refine r_bipush (v := 100) 75 dX6_worthBehind_73 rfl (by decide) ?_
      refine r_isub 76 dX6_worthBehind_75 rfl ?_
      refine r_goto 84 dX6_worthBehind_76 (by decide) ?_
      refine r_iret dX6_worthBehind_84 rfl (by decide) (by decide) ?_
      have hz : (hopsC f mv jp).length = 0 := nI_z (by omega) q63
      first
        | exact ⟨by rw [wB, if_pos hz, if_pos q38]; rfl, hF1, hs1⟩
        | exact ⟨by rw [wB, if_pos hz, if_neg q38]; rfl, hF1, hs1⟩

